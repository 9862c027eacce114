/-! the small machine's own judgement: a run that ends, and what holds then -/
def zEx (scr : Option (Nat × (Nat → Int32))) (d : Nat) (m : zM) (g : zC) (Q : Option zV → zH → Prop) : Prop := ∃ (n : Nat) (v : Option zV) (h' : zH), zrun n scr d m g = some (v, h') ∧ Q v h'
/-- a contract of a method -/
def zCt (d : Nat) (m : zM) (vs : List zV) (h : zH) (Q : Option zV → zH → Prop) : Prop := zEx none d m (0, zargs 0 vs, [], h) Q
section ZF
variable {pc len : Nat} {ls : zL} {st : List zV} {h : zH} {x : zC ⊕ zR} {call call' : zM → List zV → zH → Option zR}
theorem zcall_m {cm : zM} {kd na : Nat} (hc : ∀ k vs h r, call k vs h = some r → call' k vs h = some r) (hz : zcall call cm kd na pc ls st h = some x) : zcall call' cm kd na pc ls st h = some x := by
  unfold zcall at hz ⊢
  split at hz
  · next q =>
    rw [if_pos q]
    split at hz
    · next q2 =>
      rw [if_pos q2]
      split at hz
      · next r h' q3 => rw [hc _ _ _ _ q3]; exact hz
      · cases hz
    · next q2 =>
      rw [if_neg q2]
      split at hz
      · next a vs q3 =>
        split at hz
        · next k n q4 =>
          split at hz
          · next q5 =>
            rw [if_pos q5]
            split at hz
            · next r h' q6 => rw [hc _ _ _ _ q6]; exact hz
            · cases hz
          · cases hz
        · cases hz
      · cases hz
  · cases hz
theorem zled_m (hc : ∀ k vs h r, call k vs h = some r → call' k vs h = some r) (hz : zled call pc ls st h = some x) : zled call' pc ls st h = some x := by
  unfold zled at hz ⊢
  split at hz
  · next o p0 a st' =>
    split at hz
    · next q =>
      rw [if_pos q]
      split at hz
      · next b h' q3 => rw [hc _ _ _ _ q3]; exact hz
      · next b h' q3 => rw [hc _ _ _ _ q3]; exact hz
      · cases hz
    · cases hz
  · cases hz
theorem zexec_m {scr : Option (Nat × (Nat → Int32))} {deep : Bool} {m : zM} {i : Instr} (hc : ∀ k vs h r, call k vs h = some r → call' k vs h = some r) (hs : zexec scr call deep m i len pc ls st h = some x) : zexec scr call' deep m i len pc ls st h = some x := by
  cases i with
  | invokevirtual k =>
    simp only [zexec] at hs ⊢
    split at hs
    · next q =>
      split at hs
      · next q2 =>
        rw [if_pos q2]
        split at hs
        · next q3 => rw [if_pos q3]; exact hs
        · next q3 => rw [if_neg q3]; exact zcall_m hc hs
      · cases hs
    · cases hs
  | invokestatic k =>
    simp only [zexec] at hs ⊢
    split at hs
    · next q =>
      split at hs
      · next q2 => rw [if_pos q2]; exact zcall_m hc hs
      · next q2 =>
        rw [if_neg q2]
        split at hs
        · next q3 =>
          rw [if_pos q3]
          split at hs
          · next q4 => rw [if_pos q4]; exact zled_m hc hs
          · cases hs
        · next q3 => rw [if_neg q3]; exact hs
    · cases hs
  | invokespecial k =>
    simp only [zexec] at hs ⊢
    split at hs
    · next q =>
      split at hs
      · next q2 => rw [if_pos q2]; exact zcall_m hc hs
      · next q2 => rw [if_neg q2]; exact hs
    · cases hs
  | _ => exact hs
end ZF
theorem zrun_m : ∀ (n : Nat) (scr : Option (Nat × (Nat → Int32))) (d : Nat) (m : zM) (g : zC) (r : zR), zrun n scr d m g = some r → zrun (n + 1) scr d m g = some r := by
  intro n
  induction n with
  | zero => intro scr d m g r hz; cases hz
  | succ n ih =>
    intro scr d m g r hz
    rw [zrun_succ] at hz ⊢
    have hc : ∀ k vs h r, zcf n d k vs h = some r → zcf (n + 1) d k vs h = some r := by
      intro k vs h r hq
      unfold zcf at hq ⊢
      split at hq
      · cases hq
      · split at hq
        · next q => rw [if_pos q]; exact ih _ _ _ _ _ hq
        · cases hq
    have step : ∀ x, zstep scr (zcf n d) (decide (0 < d)) m g = some x → zstep scr (zcf (n + 1) d) (decide (0 < d)) m g = some x := by
      intro x hs
      unfold zstep at hs ⊢
      split at hs
      · next i len hd =>
        split at hs
        · next q => rw [if_pos q]; exact zexec_m hc hs
        · cases hs
      · cases hs
    split at hz
    · next g' hs => rw [step _ hs]; exact ih _ _ _ _ _ hz
    · next r' hs => rw [step _ hs]; exact hz
    · cases hz
theorem zrun_le {n n' : Nat} {scr : Option (Nat × (Nat → Int32))} {d : Nat} {m : zM} {g : zC} {r : zR} (hn : n ≤ n') (hz : zrun n scr d m g = some r) : zrun n' scr d m g = some r := by
  obtain ⟨k, rfl⟩ := Nat.exists_eq_add_of_le hn
  clear hn
  induction k with
  | zero => exact hz
  | succ k ih => exact zrun_m _ _ _ _ _ _ ih
section ZX
variable {scr : Option (Nat × (Nat → Int32))} {d : Nat} {m : zM} {pc pc' len : Nat} {ls : zL} {st : List zV} {h : zH} {Q : Option zV → zH → Prop} {i : Instr}
theorem ex_go {g' : zC} (hd : decode m.1 pc = .ok (i, len)) (hl : zilen i = 0 ∨ len = zilen i) (hx : ∀ call, zexec scr call (decide (0 < d)) m i len pc ls st h = some (.inl g')) (k : zEx scr d m g' Q) : zEx scr d m (pc, ls, st, h) Q := by
  obtain ⟨n, v, h', h1, h2⟩ := k
  refine ⟨n + 1, v, h', ?_, h2⟩
  rw [zrun_succ]
  have hs : zstep scr (zcf n d) (decide (0 < d)) m (pc, ls, st, h) = some (.inl g') := by
    unfold zstep
    rw [hd]
    dsimp only
    rw [if_pos hl]
    exact hx _
  rw [hs]
  exact h1
theorem ex_end {v : Option zV} {h' : zH} (hd : decode m.1 pc = .ok (i, len)) (hl : zilen i = 0 ∨ len = zilen i) (hx : ∀ call, zexec scr call (decide (0 < d)) m i len pc ls st h = some (.inr (v, h'))) (hq : Q v h') : zEx scr d m (pc, ls, st, h) Q := by
  refine ⟨1, v, h', ?_, hq⟩
  rw [zrun_succ]
  have hs : zstep scr (zcf 0 d) (decide (0 < d)) m (pc, ls, st, h) = some (.inr (v, h')) := by
    unfold zstep
    rw [hd]
    dsimp only
    rw [if_pos hl]
    exact hx _
  rw [hs]
theorem ex_call {cm : zM} {vs rest : List zV} {Qc : Option zV → zH → Prop} (hd : decode m.1 pc = .ok (i, len)) (hl : zilen i = 0 ∨ len = zilen i) (hx : ∀ call r h', call cm vs h = some (r, h') → zexec scr call true m i len pc ls st h = some (.inl (pc', ls, r.toList ++ rest, h'))) (hw : zwd vs ≤ cm.2.2.1) (hc : zCt d cm vs h Qc) (k : ∀ r h', Qc r h' → zEx scr (d + 1) m (pc', ls, r.toList ++ rest, h') Q) : zEx scr (d + 1) m (pc, ls, st, h) Q := by
  obtain ⟨n1, r, h1, a1, a2⟩ := hc
  obtain ⟨n2, v, h', b1, b2⟩ := k r h1 a2
  refine ⟨max n1 n2 + 1, v, h', ?_, b2⟩
  rw [zrun_succ]
  have hs : zstep scr (zcf (max n1 n2) (d + 1)) (decide (0 < d + 1)) m (pc, ls, st, h) = some (.inl (pc', ls, r.toList ++ rest, h1)) := by
    unfold zstep
    rw [hd]
    dsimp only
    rw [if_pos hl]
    have e : decide (0 < d + 1) = true := by simp
    rw [e]
    refine hx _ _ _ ?_
    unfold zcf
    dsimp only
    rw [if_pos hw]
    exact zrun_le (Nat.le_max_left _ _) a1
  rw [hs]
  exact zrun_le (Nat.le_max_right _ _) b1
theorem zEx.mono {Q' : Option zV → zH → Prop} {g : zC} (k : zEx scr d m g Q) (hq : ∀ v h', Q v h' → Q' v h') : zEx scr d m g Q' := by
  obtain ⟨n, v, h', a, b⟩ := k
  exact ⟨n, v, h', a, hq v h' b⟩
theorem ex_iconst {n : Int} {v : Int32} (hd : decode m.1 pc = .ok (.iconst n, 1)) (hv : Int32.ofInt n = v) (hp : pc + 1 = pc') (k : zEx scr d m (pc', ls, .inl v :: st, h) Q) : zEx scr d m (pc, ls, st, h) Q := by
  subst hp; subst hv; exact ex_go hd (Or.inr rfl) (fun _ => rfl) k
theorem ex_bipush {n : Int} {v : Int32} (hd : decode m.1 pc = .ok (.bipush n, 2)) (hv : (Int8.ofInt n).toInt32 = v) (hp : pc + 2 = pc') (k : zEx scr d m (pc', ls, .inl v :: st, h) Q) : zEx scr d m (pc, ls, st, h) Q := by
  subst hp; subst hv; exact ex_go hd (Or.inr rfl) (fun _ => rfl) k
theorem ex_sipush {n : Int} {v : Int32} (hd : decode m.1 pc = .ok (.sipush n, 3)) (hv : (Int16.ofInt n).toInt32 = v) (hp : pc + 3 = pc') (k : zEx scr d m (pc', ls, .inl v :: st, h) Q) : zEx scr d m (pc, ls, st, h) Q := by
  subst hp; subst hv; exact ex_go hd (Or.inr rfl) (fun _ => rfl) k
theorem ex_lconst {n : Fin 2} {v : Int64} (hd : decode m.1 pc = .ok (.lconst n, 1)) (hv : Int64.ofNat (n : Nat) = v) (hp : pc + 1 = pc') (k : zEx scr d m (pc', ls, .inr (.inl v) :: st, h) Q) : zEx scr d m (pc, ls, st, h) Q := by
  subst hp; subst hv; exact ex_go hd (Or.inr rfl) (fun _ => rfl) k
theorem ex_ldc {k : Nat} {v : zV} (hd : decode m.1 pc = .ok (.ldc k, 2)) (hv : zcst m.2.1 k = some v) (hc : zcat v = 1) (hp : pc + 2 = pc') (kk : zEx scr d m (pc', ls, v :: st, h) Q) : zEx scr d m (pc, ls, st, h) Q := by
  subst hp; exact ex_go hd (Or.inr rfl) (fun _ => by simp only [zexec, zldv, hv]; rw [if_pos hc]) kk
theorem ex_ldcw {k : Nat} {v : zV} (hd : decode m.1 pc = .ok (.ldc_w k, 3)) (hv : zcst m.2.1 k = some v) (hc : zcat v = 1) (hp : pc + 3 = pc') (kk : zEx scr d m (pc', ls, v :: st, h) Q) : zEx scr d m (pc, ls, st, h) Q := by
  subst hp; exact ex_go hd (Or.inr rfl) (fun _ => by simp only [zexec, zldv, hv]; rw [if_pos hc]) kk
theorem ex_ldc2 {k : Nat} {v : zV} (hd : decode m.1 pc = .ok (.ldc2_w k, 3)) (hv : zcst m.2.1 k = some v) (hc : zcat v = 2) (hp : pc + 3 = pc') (kk : zEx scr d m (pc', ls, v :: st, h) Q) : zEx scr d m (pc, ls, st, h) Q := by
  subst hp; exact ex_go hd (Or.inr rfl) (fun _ => by simp only [zexec, zldv, hv]; rw [if_pos hc]) kk
theorem ex_iload {j : Nat} {v : Int32} (hd : decode m.1 pc = .ok (.iload j, 2)) (hv : zget ls j = some (.inl v)) (hp : pc + 2 = pc') (k : zEx scr d m (pc', ls, .inl v :: st, h) Q) : zEx scr d m (pc, ls, st, h) Q := by
  subst hp; exact ex_go hd (Or.inr rfl) (fun _ => by simp only [zexec, zload, hv]; rfl) k
theorem ex_iload_n {j : Fin 4} {v : Int32} (hd : decode m.1 pc = .ok (.iload_n j, 1)) (hv : zget ls (j : Nat) = some (.inl v)) (hp : pc + 1 = pc') (k : zEx scr d m (pc', ls, .inl v :: st, h) Q) : zEx scr d m (pc, ls, st, h) Q := by
  subst hp; exact ex_go hd (Or.inr rfl) (fun _ => by simp only [zexec, zload, hv]; rfl) k
theorem ex_lload {j : Nat} {v : Int64} (hd : decode m.1 pc = .ok (.lload j, 2)) (hv : zget ls j = some (.inr (.inl v))) (hp : pc + 2 = pc') (k : zEx scr d m (pc', ls, .inr (.inl v) :: st, h) Q) : zEx scr d m (pc, ls, st, h) Q := by
  subst hp; exact ex_go hd (Or.inr rfl) (fun _ => by simp only [zexec, zload, hv]; rfl) k
theorem ex_lload_n {j : Fin 4} {v : Int64} (hd : decode m.1 pc = .ok (.lload_n j, 1)) (hv : zget ls (j : Nat) = some (.inr (.inl v))) (hp : pc + 1 = pc') (k : zEx scr d m (pc', ls, .inr (.inl v) :: st, h) Q) : zEx scr d m (pc, ls, st, h) Q := by
  subst hp; exact ex_go hd (Or.inr rfl) (fun _ => by simp only [zexec, zload, hv]; rfl) k
theorem ex_aload {j : Nat} {v : Nat} (hd : decode m.1 pc = .ok (.aload j, 2)) (hv : zget ls j = some (.inr (.inr (some v)))) (hp : pc + 2 = pc') (k : zEx scr d m (pc', ls, .inr (.inr (some v)) :: st, h) Q) : zEx scr d m (pc, ls, st, h) Q := by
  subst hp; exact ex_go hd (Or.inr rfl) (fun _ => by simp only [zexec, zload, hv]; rfl) k
theorem ex_aload_n {j : Fin 4} {v : Nat} (hd : decode m.1 pc = .ok (.aload_n j, 1)) (hv : zget ls (j : Nat) = some (.inr (.inr (some v)))) (hp : pc + 1 = pc') (k : zEx scr d m (pc', ls, .inr (.inr (some v)) :: st, h) Q) : zEx scr d m (pc, ls, st, h) Q := by
  subst hp; exact ex_go hd (Or.inr rfl) (fun _ => by simp only [zexec, zload, hv]; rfl) k
theorem ex_istore {j : Nat} {v : Int32} {ls' : zL} (hd : decode m.1 pc = .ok (.istore j, 2)) (hj : j < m.2.2.1) (hl : zset1 ls j (.inl v) = ls') (hp : pc + 2 = pc') (k : zEx scr d m (pc', ls', st, h) Q) : zEx scr d m (pc, ls, .inl v :: st, h) Q := by
  subst hp; subst hl; exact ex_go hd (Or.inr rfl) (fun _ => by simp only [zexec, zstore]; rw [if_pos ⟨trivial, hj⟩]) k
theorem ex_istore_n {j : Fin 4} {v : Int32} {ls' : zL} (hd : decode m.1 pc = .ok (.istore_n j, 1)) (hj : (j : Nat) < m.2.2.1) (hl : zset1 ls (j : Nat) (.inl v) = ls') (hp : pc + 1 = pc') (k : zEx scr d m (pc', ls', st, h) Q) : zEx scr d m (pc, ls, .inl v :: st, h) Q := by
  subst hp; subst hl; exact ex_go hd (Or.inr rfl) (fun _ => by simp only [zexec, zstore]; rw [if_pos ⟨trivial, hj⟩]) k
theorem ex_lstore {j : Nat} {v : Int64} {ls' : zL} (hd : decode m.1 pc = .ok (.lstore j, 2)) (hj : j + 1 < m.2.2.1) (hl : zset2 ls j (.inr (.inl v)) = ls') (hp : pc + 2 = pc') (k : zEx scr d m (pc', ls', st, h) Q) : zEx scr d m (pc, ls, .inr (.inl v) :: st, h) Q := by
  subst hp; subst hl; exact ex_go hd (Or.inr rfl) (fun _ => by simp only [zexec, zstore]; rw [if_pos ⟨trivial, hj⟩]) k
theorem ex_lstore_n {j : Fin 4} {v : Int64} {ls' : zL} (hd : decode m.1 pc = .ok (.lstore_n j, 1)) (hj : (j : Nat) + 1 < m.2.2.1) (hl : zset2 ls (j : Nat) (.inr (.inl v)) = ls') (hp : pc + 1 = pc') (k : zEx scr d m (pc', ls', st, h) Q) : zEx scr d m (pc, ls, .inr (.inl v) :: st, h) Q := by
  subst hp; subst hl; exact ex_go hd (Or.inr rfl) (fun _ => by simp only [zexec, zstore]; rw [if_pos ⟨trivial, hj⟩]) k
theorem ex_astore {j : Nat} {v : Nat} {ls' : zL} (hd : decode m.1 pc = .ok (.astore j, 2)) (hj : j < m.2.2.1) (hl : zset1 ls j (.inr (.inr (some v))) = ls') (hp : pc + 2 = pc') (k : zEx scr d m (pc', ls', st, h) Q) : zEx scr d m (pc, ls, .inr (.inr (some v)) :: st, h) Q := by
  subst hp; subst hl; exact ex_go hd (Or.inr rfl) (fun _ => by simp only [zexec, zstore]; rw [if_pos ⟨trivial, hj⟩]) k
theorem ex_astore_n {j : Fin 4} {v : Nat} {ls' : zL} (hd : decode m.1 pc = .ok (.astore_n j, 1)) (hj : (j : Nat) < m.2.2.1) (hl : zset1 ls (j : Nat) (.inr (.inr (some v))) = ls') (hp : pc + 1 = pc') (k : zEx scr d m (pc', ls', st, h) Q) : zEx scr d m (pc, ls, .inr (.inr (some v)) :: st, h) Q := by
  subst hp; subst hl; exact ex_go hd (Or.inr rfl) (fun _ => by simp only [zexec, zstore]; rw [if_pos ⟨trivial, hj⟩]) k
theorem ex_iinc {j : Nat} {n : Int} {x v : Int32} {ls' : zL} (hd : decode m.1 pc = .ok (.iinc j n, 3)) (hg : zget ls j = some (.inl x)) (hj : j < m.2.2.1) (hv : x + Int32.ofInt n = v) (hl : zset1 ls j (.inl v) = ls') (hp : pc + 3 = pc') (k : zEx scr d m (pc', ls', st, h) Q) : zEx scr d m (pc, ls, st, h) Q := by
  subst hp; subst hl; subst hv; exact ex_go hd (Or.inr rfl) (fun _ => by simp only [zexec, hg]; rw [if_pos hj]) k
theorem ex_bin {x y v : Int32} (hd : decode m.1 pc = .ok (i, 1)) (hi : zilen i = 1) (hx : ∀ (call : zM → List zV → zH → Option zR) (deep : Bool) st, zexec scr call deep m i 1 pc ls st h = zarith i 1 pc ls st h) (hz : zbin i x y = some v) (hp : pc + 1 = pc') (k : zEx scr d m (pc', ls, .inl v :: st, h) Q) : zEx scr d m (pc, ls, .inl y :: .inl x :: st, h) Q := by
  subst hp; exact ex_go hd (Or.inr hi.symm) (fun _ => by rw [hx]; simp only [zarith, hz]) k
theorem ex_iadd {x y v : Int32} (hd : decode m.1 pc = .ok (.iadd, 1)) (hv : x + y = v) (hp : pc + 1 = pc') (k : zEx scr d m (pc', ls, .inl v :: st, h) Q) : zEx scr d m (pc, ls, .inl y :: .inl x :: st, h) Q := by
  subst hv; exact ex_bin hd rfl (fun _ _ _ => rfl) rfl hp k
theorem ex_isub {x y v : Int32} (hd : decode m.1 pc = .ok (.isub, 1)) (hv : x - y = v) (hp : pc + 1 = pc') (k : zEx scr d m (pc', ls, .inl v :: st, h) Q) : zEx scr d m (pc, ls, .inl y :: .inl x :: st, h) Q := by
  subst hv; exact ex_bin hd rfl (fun _ _ _ => rfl) rfl hp k
theorem ex_imul {x y v : Int32} (hd : decode m.1 pc = .ok (.imul, 1)) (hv : x * y = v) (hp : pc + 1 = pc') (k : zEx scr d m (pc', ls, .inl v :: st, h) Q) : zEx scr d m (pc, ls, .inl y :: .inl x :: st, h) Q := by
  subst hv; exact ex_bin hd rfl (fun _ _ _ => rfl) rfl hp k
theorem ex_iand {x y v : Int32} (hd : decode m.1 pc = .ok (.iand, 1)) (hv : x &&& y = v) (hp : pc + 1 = pc') (k : zEx scr d m (pc', ls, .inl v :: st, h) Q) : zEx scr d m (pc, ls, .inl y :: .inl x :: st, h) Q := by
  subst hv; exact ex_bin hd rfl (fun _ _ _ => rfl) rfl hp k
theorem ex_ior {x y v : Int32} (hd : decode m.1 pc = .ok (.ior, 1)) (hv : x ||| y = v) (hp : pc + 1 = pc') (k : zEx scr d m (pc', ls, .inl v :: st, h) Q) : zEx scr d m (pc, ls, .inl y :: .inl x :: st, h) Q := by
  subst hv; exact ex_bin hd rfl (fun _ _ _ => rfl) rfl hp k
theorem ex_ixor {x y v : Int32} (hd : decode m.1 pc = .ok (.ixor, 1)) (hv : x ^^^ y = v) (hp : pc + 1 = pc') (k : zEx scr d m (pc', ls, .inl v :: st, h) Q) : zEx scr d m (pc, ls, .inl y :: .inl x :: st, h) Q := by
  subst hv; exact ex_bin hd rfl (fun _ _ _ => rfl) rfl hp k
theorem ex_ishl {x y v : Int32} (hd : decode m.1 pc = .ok (.ishl, 1)) (hv : x <<< (y &&& 31) = v) (hp : pc + 1 = pc') (k : zEx scr d m (pc', ls, .inl v :: st, h) Q) : zEx scr d m (pc, ls, .inl y :: .inl x :: st, h) Q := by
  subst hv; exact ex_bin hd rfl (fun _ _ _ => rfl) rfl hp k
theorem ex_ishr {x y v : Int32} (hd : decode m.1 pc = .ok (.ishr, 1)) (hv : x >>> (y &&& 31) = v) (hp : pc + 1 = pc') (k : zEx scr d m (pc', ls, .inl v :: st, h) Q) : zEx scr d m (pc, ls, .inl y :: .inl x :: st, h) Q := by
  subst hv; exact ex_bin hd rfl (fun _ _ _ => rfl) rfl hp k
theorem ex_iushr {x y v : Int32} (hd : decode m.1 pc = .ok (.iushr, 1)) (hv : (x.toUInt32 >>> (y.toUInt32 &&& Int32.toUInt32 31)).toInt32 = v) (hp : pc + 1 = pc') (k : zEx scr d m (pc', ls, .inl v :: st, h) Q) : zEx scr d m (pc, ls, .inl y :: .inl x :: st, h) Q := by
  subst hv; exact ex_bin hd rfl (fun _ _ _ => rfl) rfl hp k
theorem ex_idiv {x y v : Int32} (hd : decode m.1 pc = .ok (.idiv, 1)) (hy : ¬ y = 0) (hv : x / y = v) (hp : pc + 1 = pc') (k : zEx scr d m (pc', ls, .inl v :: st, h) Q) : zEx scr d m (pc, ls, .inl y :: .inl x :: st, h) Q := by
  subst hv; exact ex_bin hd rfl (fun _ _ _ => rfl) (by simp only [zbin]; rw [if_neg hy]) hp k
theorem ex_irem {x y v : Int32} (hd : decode m.1 pc = .ok (.irem, 1)) (hy : ¬ y = 0) (hv : x - x / y * y = v) (hp : pc + 1 = pc') (k : zEx scr d m (pc', ls, .inl v :: st, h) Q) : zEx scr d m (pc, ls, .inl y :: .inl x :: st, h) Q := by
  subst hv; exact ex_bin hd rfl (fun _ _ _ => rfl) (by simp only [zbin]; rw [if_neg hy]) hp k
theorem ex_un {x : Int32} {v : zV} (hd : decode m.1 pc = .ok (i, 1)) (hi : zilen i = 1) (hx : ∀ (call : zM → List zV → zH → Option zR) (deep : Bool) st, zexec scr call deep m i 1 pc ls st h = zarith i 1 pc ls st h) (hb : ∀ a b, zbin i a b = none) (hz : zun i x = some v) (hp : pc + 1 = pc') (k : zEx scr d m (pc', ls, v :: st, h) Q) : zEx scr d m (pc, ls, .inl x :: st, h) Q := by
  subst hp
  refine ex_go hd (Or.inr hi.symm) (fun _ => ?_) k
  rw [hx]
  unfold zarith
  split
  · next y x' st' e =>
    cases e
    rw [hb, hz]
  · next x' st' h0 e =>
    cases e
    rw [hz]
  · next e => cases e
  · next h1 h2 h3 => exact absurd rfl (h2 x st)
theorem ex_i2l {x : Int32} {v : Int64} (hd : decode m.1 pc = .ok (.i2l, 1)) (hv : x.toInt64 = v) (hp : pc + 1 = pc') (k : zEx scr d m (pc', ls, .inr (.inl v) :: st, h) Q) : zEx scr d m (pc, ls, .inl x :: st, h) Q := by
  subst hv; exact ex_un hd rfl (fun _ _ _ => rfl) (fun _ _ => rfl) rfl hp k
theorem ex_i2b {x : Int32} {v : Int32} (hd : decode m.1 pc = .ok (.i2b, 1)) (hv : x.toInt8.toInt32 = v) (hp : pc + 1 = pc') (k : zEx scr d m (pc', ls, .inl v :: st, h) Q) : zEx scr d m (pc, ls, .inl x :: st, h) Q := by
  subst hv; exact ex_un hd rfl (fun _ _ _ => rfl) (fun _ _ => rfl) rfl hp k
theorem ex_i2c {x : Int32} {v : Int32} (hd : decode m.1 pc = .ok (.i2c, 1)) (hv : (x.toUInt32 % 65536).toInt32 = v) (hp : pc + 1 = pc') (k : zEx scr d m (pc', ls, .inl v :: st, h) Q) : zEx scr d m (pc, ls, .inl x :: st, h) Q := by
  subst hv; exact ex_un hd rfl (fun _ _ _ => rfl) (fun _ _ => rfl) rfl hp k
theorem ex_lcmp {x y : Int64} {v : Int32} (hd : decode m.1 pc = .ok (.lcmp, 1)) (hv : lg_cmp x y = v) (hp : pc + 1 = pc') (k : zEx scr d m (pc', ls, .inl v :: st, h) Q) : zEx scr d m (pc, ls, .inr (.inl y) :: .inr (.inl x) :: st, h) Q := by
  subst hv; subst hp; exact ex_go hd (Or.inr rfl) (fun _ => rfl) k
theorem ex_lor {x y v : Int64} (hd : decode m.1 pc = .ok (.lor, 1)) (hv : x ||| y = v) (hp : pc + 1 = pc') (k : zEx scr d m (pc', ls, .inr (.inl v) :: st, h) Q) : zEx scr d m (pc, ls, .inr (.inl y) :: .inr (.inl x) :: st, h) Q := by
  subst hv; subst hp; exact ex_go hd (Or.inr rfl) (fun _ => rfl) k
theorem ex_lrem {x y v : Int64} (hd : decode m.1 pc = .ok (.lrem, 1)) (hy : ¬ y = 0) (hv : x - x / y * y = v) (hp : pc + 1 = pc') (k : zEx scr d m (pc', ls, .inr (.inl v) :: st, h) Q) : zEx scr d m (pc, ls, .inr (.inl y) :: .inr (.inl x) :: st, h) Q := by
  subst hv; subst hp; exact ex_go hd (Or.inr rfl) (fun _ => by simp only [zexec, zarith, zlbin]; rw [if_neg hy]) k
theorem ex_ldiv {x y v : Int64} (hd : decode m.1 pc = .ok (.ldiv, 1)) (hy : ¬ y = 0) (hv : x / y = v) (hp : pc + 1 = pc') (k : zEx scr d m (pc', ls, .inr (.inl v) :: st, h) Q) : zEx scr d m (pc, ls, .inr (.inl y) :: .inr (.inl x) :: st, h) Q := by
  subst hv; subst hp; exact ex_go hd (Or.inr rfl) (fun _ => by simp only [zexec, zarith, zlbin]; rw [if_neg hy]) k
theorem ex_lshl {x v : Int64} {y : Int32} (hd : decode m.1 pc = .ok (.lshl, 1)) (hv : x <<< (y.toInt64 &&& 63) = v) (hp : pc + 1 = pc') (k : zEx scr d m (pc', ls, .inr (.inl v) :: st, h) Q) : zEx scr d m (pc, ls, .inl y :: .inr (.inl x) :: st, h) Q := by
  subst hv; subst hp; exact ex_go hd (Or.inr rfl) (fun _ => rfl) k
theorem ex_goto {off : Int} (hd : decode m.1 pc = .ok (.goto off, 3)) (hp : (pc : Int) + off = (pc' : Int)) (k : zEx scr d m (pc', ls, st, h) Q) : zEx scr d m (pc, ls, st, h) Q :=
  ex_go hd (Or.inr rfl) (fun _ => by simp only [zexec, zjump, hp]; rfl) k
theorem ex_br {b : Bool} {off : Int} {g' : zC} (hp : (pc : Int) + off = (pc' : Int)) (hb : (b = true ∧ g' = (pc', ls, st, h)) ∨ (b = false ∧ g' = (pc + 3, ls, st, h))) : zbr b pc 3 off ls st h = some (.inl g') := by
  unfold zbr
  rw [hp, if_pos (Int.natCast_nonneg _)]
  rcases hb with ⟨rfl, rfl⟩ | ⟨rfl, rfl⟩
  · simp
  · simp
/-- branches: both roads, the taken one, the other one -/
theorem ex_if {cd : ClassFile.Cond} {off : Int} {x : Int32} {pc2 : Nat} (hd : decode m.1 pc = .ok (.ifCond cd off, 3)) (hp : (pc : Int) + off = (pc' : Int)) (hp2 : pc + 3 = pc2) (kt : zcond cd x 0 = true → zEx scr d m (pc', ls, st, h) Q) (kf : zcond cd x 0 = false → zEx scr d m (pc2, ls, st, h) Q) : zEx scr d m (pc, ls, .inl x :: st, h) Q := by
  subst hp2
  cases hc : zcond cd x 0 with
  | true => exact ex_go hd (Or.inr rfl) (fun _ => by simp only [zexec]; exact ex_br hp (Or.inl ⟨hc, rfl⟩)) (kt hc)
  | false => exact ex_go hd (Or.inr rfl) (fun _ => by simp only [zexec]; exact ex_br hp (Or.inr ⟨hc, rfl⟩)) (kf hc)
theorem ex_icmp {cd : ClassFile.Cond} {off : Int} {x y : Int32} {pc2 : Nat} (hd : decode m.1 pc = .ok (.if_icmp cd off, 3)) (hp : (pc : Int) + off = (pc' : Int)) (hp2 : pc + 3 = pc2) (kt : zcond cd x y = true → zEx scr d m (pc', ls, st, h) Q) (kf : zcond cd x y = false → zEx scr d m (pc2, ls, st, h) Q) : zEx scr d m (pc, ls, .inl y :: .inl x :: st, h) Q := by
  subst hp2
  cases hc : zcond cd x y with
  | true => exact ex_go hd (Or.inr rfl) (fun _ => by simp only [zexec]; exact ex_br hp (Or.inl ⟨hc, rfl⟩)) (kt hc)
  | false => exact ex_go hd (Or.inr rfl) (fun _ => by simp only [zexec]; exact ex_br hp (Or.inr ⟨hc, rfl⟩)) (kf hc)
theorem ex_if_t {cd : ClassFile.Cond} {off : Int} {x : Int32} (hd : decode m.1 pc = .ok (.ifCond cd off, 3)) (hc : zcond cd x 0 = true) (hp : (pc : Int) + off = (pc' : Int)) (k : zEx scr d m (pc', ls, st, h) Q) : zEx scr d m (pc, ls, .inl x :: st, h) Q :=
  ex_if hd hp rfl (fun _ => k) (fun q => absurd (hc.symm.trans q) (by decide))
theorem ex_if_f {cd : ClassFile.Cond} {off : Int} {x : Int32} (hd : decode m.1 pc = .ok (.ifCond cd off, 3)) (hc : zcond cd x 0 = false) (ho : 0 ≤ (pc : Int) + off) (hp : pc + 3 = pc') (k : zEx scr d m (pc', ls, st, h) Q) : zEx scr d m (pc, ls, .inl x :: st, h) Q :=
  ex_if (pc' := ((pc : Int) + off).toNat) hd (Int.toNat_of_nonneg ho).symm hp (fun q => absurd (hc.symm.trans q) (by decide)) (fun _ => k)
theorem ex_icmp_t {cd : ClassFile.Cond} {off : Int} {x y : Int32} (hd : decode m.1 pc = .ok (.if_icmp cd off, 3)) (hc : zcond cd x y = true) (hp : (pc : Int) + off = (pc' : Int)) (k : zEx scr d m (pc', ls, st, h) Q) : zEx scr d m (pc, ls, .inl y :: .inl x :: st, h) Q :=
  ex_icmp hd hp rfl (fun _ => k) (fun q => absurd (hc.symm.trans q) (by decide))
theorem ex_icmp_f {cd : ClassFile.Cond} {off : Int} {x y : Int32} (hd : decode m.1 pc = .ok (.if_icmp cd off, 3)) (hc : zcond cd x y = false) (ho : 0 ≤ (pc : Int) + off) (hp : pc + 3 = pc') (k : zEx scr d m (pc', ls, st, h) Q) : zEx scr d m (pc, ls, .inl y :: .inl x :: st, h) Q :=
  ex_icmp (pc' := ((pc : Int) + off).toNat) hd (Int.toNat_of_nonneg ho).symm hp (fun q => absurd (hc.symm.trans q) (by decide)) (fun _ => k)
theorem ex_switch {df lo hi : Int} {offs : Array Int} {x : Int32} (hd : decode m.1 pc = .ok (.tableswitch df lo hi offs, len)) (hc : (x.toInt < lo ∨ hi < x.toInt) → (pc : Int) + df = (pc' : Int)) (hc2 : ¬ (x.toInt < lo ∨ hi < x.toInt) → ∃ off, offs[(x.toInt - lo).toNat]? = some off ∧ (pc : Int) + off = (pc' : Int)) (k : zEx scr d m (pc', ls, st, h) Q) : zEx scr d m (pc, ls, .inl x :: st, h) Q := by
  refine ex_go hd (Or.inl rfl) (fun _ => ?_) k
  simp only [zexec]
  by_cases hb : x.toInt < lo ∨ hi < x.toInt
  · rw [if_pos hb]
    simp only [zjump, hc hb]
    rfl
  · rw [if_neg hb]
    obtain ⟨off, h1, h2⟩ := hc2 hb
    rw [h1]
    simp only [zjump, h2]
    rfl
theorem ex_getI {k a ci f n : Nat} {v : Int32} (hd : decode m.1 pc = .ok (.getfield k, 3)) (hz : zfld m.2.1 k = some (ci, f)) (hs : zsh h a = some (ci, n)) (hc : (zft ci).getD f 0 ≠ 3) (hv : h.2.1 a f = v) (hp : pc + 3 = pc') (kk : zEx scr d m (pc', ls, .inl v :: st, h) Q) : zEx scr d m (pc, ls, .inr (.inr (some a)) :: st, h) Q := by
  subst hp; exact ex_go hd (Or.inr rfl) (fun _ => by simp only [zexec, hz, hs, zfv, if_neg hc, hv]; rfl) kk
theorem ex_getR {k a ci f n r : Nat} (hd : decode m.1 pc = .ok (.getfield k, 3)) (hz : zfld m.2.1 k = some (ci, f)) (hs : zsh h a = some (ci, n)) (hc : (zft ci).getD f 0 = 3) (hv : h.2.2.2.1 a f = some r) (hp : pc + 3 = pc') (kk : zEx scr d m (pc', ls, .inr (.inr (some r)) :: st, h) Q) : zEx scr d m (pc, ls, .inr (.inr (some a)) :: st, h) Q := by
  subst hp; exact ex_go hd (Or.inr rfl) (fun _ => by simp only [zexec, hz, hs, zfv, if_pos hc, hv]; rfl) kk
theorem ex_putI {k a ci f n : Nat} {v : Int32} (hd : decode m.1 pc = .ok (.putfield k, 3)) (hz : zfld m.2.1 k = some (ci, f)) (hs : zsh h a = some (ci, n)) (hfi : zfin ci f = false ∨ (m.2.2.2.2.2 = true ∧ m.2.1 = ci)) (hc : (zft ci).getD f 9 = 0 ∨ ((zft ci).getD f 9 = 1 ∧ (v = 0 ∨ v = 1))) (hp : pc + 3 = pc') (kk : zEx scr d m (pc', ls, st, zsI h a f v) Q) : zEx scr d m (pc, ls, .inl v :: .inr (.inr (some a)) :: st, h) Q := by
  subst hp; exact ex_go hd (Or.inr rfl) (fun _ => by simp only [zexec, hz, hs]; rw [if_pos ⟨trivial, hfi⟩]; simp only [zput]; rw [if_pos hc]) kk
theorem ex_putR {k a ci f n : Nat} {v : Option Nat} (hd : decode m.1 pc = .ok (.putfield k, 3)) (hz : zfld m.2.1 k = some (ci, f)) (hs : zsh h a = some (ci, n)) (hfi : zfin ci f = false ∨ (m.2.2.2.2.2 = true ∧ m.2.1 = ci)) (hc : (zft ci).getD f 9 = 3) (hp : pc + 3 = pc') (kk : zEx scr d m (pc', ls, st, zsR h a f v) Q) : zEx scr d m (pc, ls, .inr (.inr v) :: .inr (.inr (some a)) :: st, h) Q := by
  subst hp; exact ex_go hd (Or.inr rfl) (fun _ => by simp only [zexec, hz, hs]; rw [if_pos ⟨trivial, hfi⟩]; simp only [zput]; rw [if_pos hc]) kk
theorem ex_iald {a n : Nat} {j v : Int32} (hd : decode m.1 pc = .ok (.iaload, 1)) (hs : zsh h a = some (14, n)) (hj : zin j n = true) (hv : h.2.1 a j.toNatClampNeg = v) (hp : pc + 1 = pc') (kk : zEx scr d m (pc', ls, .inl v :: st, h) Q) : zEx scr d m (pc, ls, .inl j :: .inr (.inr (some a)) :: st, h) Q := by
  subst hp; subst hv; exact ex_go hd (Or.inr rfl) (fun _ => by simp only [zexec, zld, hs, hj]; rfl) kk
theorem ex_sald {n : Nat} {xs : Nat → Int32} {j v : Int32} (hd : decode m.1 pc = .ok (.iaload, 1)) (hs : zsh h 1000000 = none) (hsc : scr = some (n, xs)) (hj : zin j n = true) (hv : xs j.toNatClampNeg = v) (hp : pc + 1 = pc') (kk : zEx scr d m (pc', ls, .inl v :: st, h) Q) : zEx scr d m (pc, ls, .inl j :: .inr (.inr (some 1000000)) :: st, h) Q := by
  subst hp; subst hv; subst hsc; exact ex_go hd (Or.inr rfl) (fun _ => by simp only [zexec, zld, hs, hj]; rfl) kk
theorem ex_bald {a n : Nat} {j v : Int32} (hd : decode m.1 pc = .ok (.baload, 1)) (hs : zsh h a = some (13, n)) (hj : zin j n = true) (hv : h.2.1 a j.toNatClampNeg = v) (hp : pc + 1 = pc') (kk : zEx scr d m (pc', ls, .inl v :: st, h) Q) : zEx scr d m (pc, ls, .inl j :: .inr (.inr (some a)) :: st, h) Q := by
  subst hp; subst hv; exact ex_go hd (Or.inr rfl) (fun _ => by simp only [zexec, zld, hs, hj]; rfl) kk
theorem ex_lald {a n : Nat} {j : Int32} {v : Int64} (hd : decode m.1 pc = .ok (.laload, 1)) (hs : zsh h a = some (15, n)) (hj : zin j n = true) (hv : h.2.2.1 a j.toNatClampNeg = v) (hp : pc + 1 = pc') (kk : zEx scr d m (pc', ls, .inr (.inl v) :: st, h) Q) : zEx scr d m (pc, ls, .inl j :: .inr (.inr (some a)) :: st, h) Q := by
  subst hp; subst hv; exact ex_go hd (Or.inr rfl) (fun _ => by simp only [zexec, hs]; rw [if_pos ⟨trivial, hj⟩]) kk
theorem ex_aald {a kd n r : Nat} {j : Int32} (hd : decode m.1 pc = .ok (.aaload, 1)) (hs : zsh h a = some (kd, n)) (hk : 16 ≤ kd ∧ kd ≤ 20) (hj : zin j n = true) (hv : h.2.2.2.1 a j.toNatClampNeg = some r) (hp : pc + 1 = pc') (kk : zEx scr d m (pc', ls, .inr (.inr (some r)) :: st, h) Q) : zEx scr d m (pc, ls, .inl j :: .inr (.inr (some a)) :: st, h) Q := by
  subst hp; exact ex_go hd (Or.inr rfl) (fun _ => by simp only [zexec, hs]; rw [if_pos ⟨hk.1, hk.2, hj⟩, hv]) kk
theorem ex_iast {a n : Nat} {j v : Int32} (hd : decode m.1 pc = .ok (.iastore, 1)) (hs : zsh h a = some (14, n)) (hj : zin j n = true) (hp : pc + 1 = pc') (kk : zEx scr d m (pc', ls, st, zsI h a j.toNatClampNeg v) Q) : zEx scr d m (pc, ls, .inl v :: .inl j :: .inr (.inr (some a)) :: st, h) Q := by
  subst hp; exact ex_go hd (Or.inr rfl) (fun _ => by simp only [zexec, zst, hs, hj]; rfl) kk
theorem ex_bast {a n : Nat} {j v : Int32} (hd : decode m.1 pc = .ok (.bastore, 1)) (hs : zsh h a = some (13, n)) (hj : zin j n = true) (hp : pc + 1 = pc') (kk : zEx scr d m (pc', ls, st, zsI h a j.toNatClampNeg (vp_nar .byte v)) Q) : zEx scr d m (pc, ls, .inl v :: .inl j :: .inr (.inr (some a)) :: st, h) Q := by
  subst hp; exact ex_go hd (Or.inr rfl) (fun _ => by simp only [zexec, zst, hs, hj]; rfl) kk
theorem ex_last {a n : Nat} {j : Int32} {v : Int64} (hd : decode m.1 pc = .ok (.lastore, 1)) (hs : zsh h a = some (15, n)) (hj : zin j n = true) (hp : pc + 1 = pc') (kk : zEx scr d m (pc', ls, st, zsL h a j.toNatClampNeg v) Q) : zEx scr d m (pc, ls, .inr (.inl v) :: .inl j :: .inr (.inr (some a)) :: st, h) Q := by
  subst hp; exact ex_go hd (Or.inr rfl) (fun _ => by simp only [zexec, hs]; rw [if_pos ⟨trivial, hj⟩]) kk
theorem ex_aast {a kd n v nv : Nat} {j : Int32} (hd : decode m.1 pc = .ok (.aastore, 1)) (hs : zsh h a = some (kd, n)) (hv : zsh h v = some (zrc kd, nv)) (hk : 16 ≤ kd ∧ kd ≤ 20) (hj : zin j n = true) (hp : pc + 1 = pc') (kk : zEx scr d m (pc', ls, st, zsR h a j.toNatClampNeg (some v)) Q) : zEx scr d m (pc, ls, .inr (.inr (some v)) :: .inl j :: .inr (.inr (some a)) :: st, h) Q := by
  subst hp; exact ex_go hd (Or.inr rfl) (fun _ => by simp only [zexec, hs, hv]; rw [if_pos ⟨hk.1, hk.2, hj, trivial⟩]) kk
theorem ex_alen {a kd n : Nat} {v : Int32} (hd : decode m.1 pc = .ok (.arraylength, 1)) (hs : zsh h a = some (kd, n)) (hk : 13 ≤ kd) (hv : Int32.ofNat n = v) (hp : pc + 1 = pc') (kk : zEx scr d m (pc', ls, .inl v :: st, h) Q) : zEx scr d m (pc, ls, .inr (.inr (some a)) :: st, h) Q := by
  subst hp; subst hv; exact ex_go hd (Or.inr rfl) (fun _ => by simp only [zexec, zlen, hs]; rw [if_pos hk]) kk
theorem ex_slen {n : Nat} {xs : Nat → Int32} {v : Int32} (hd : decode m.1 pc = .ok (.arraylength, 1)) (hs : zsh h 1000000 = none) (hsc : scr = some (n, xs)) (hv : Int32.ofNat n = v) (hp : pc + 1 = pc') (kk : zEx scr d m (pc', ls, .inl v :: st, h) Q) : zEx scr d m (pc, ls, .inr (.inr (some 1000000)) :: st, h) Q := by
  subst hp; subst hv; subst hsc; exact ex_go hd (Or.inr rfl) (fun _ => by simp only [zexec, zlen, hs]; rfl) kk
theorem ex_new {k ci : Nat} (hd : decode m.1 pc = .ok (.new k, 3)) (hz : zcls m.2.1 k = some ci) (hc : ci < 13) (h0 : h.2.2.2.2 = 0 ∧ h.1.1 < 900000) (hp : pc + 3 = pc') (kk : zEx scr d m (pc', ls, .inr (.inr (some h.1.1)) :: st, znew h ci (zft ci).length) Q) : zEx scr d m (pc, ls, st, h) Q := by
  subst hp; exact ex_go hd (Or.inr rfl) (fun _ => by simp only [zexec, hz]; rw [if_pos hc, if_pos h0]) kk
theorem ex_dup {v : zV} (hd : decode m.1 pc = .ok (.dup, 1)) (hc : zcat v = 1) (hp : pc + 1 = pc') (kk : zEx scr d m (pc', ls, v :: v :: st, h) Q) : zEx scr d m (pc, ls, v :: st, h) Q := by
  subst hp; exact ex_go hd (Or.inr rfl) (fun _ => by simp only [zexec]; rw [if_pos hc]) kk
theorem ex_dup2 {v w : zV} (hd : decode m.1 pc = .ok (.dup2, 1)) (hc : zcat v = 1 ∧ zcat w = 1) (hp : pc + 1 = pc') (kk : zEx scr d m (pc', ls, v :: w :: v :: w :: st, h) Q) : zEx scr d m (pc, ls, v :: w :: st, h) Q := by
  subst hp; exact ex_go hd (Or.inr rfl) (fun _ => by simp only [zexec]; rw [if_pos hc]) kk
theorem ex_pop {v : zV} (hd : decode m.1 pc = .ok (.pop, 1)) (hc : zcat v = 1) (hp : pc + 1 = pc') (kk : zEx scr d m (pc', ls, st, h) Q) : zEx scr d m (pc, ls, v :: st, h) Q := by
  subst hp; exact ex_go hd (Or.inr rfl) (fun _ => by simp only [zexec]; rw [if_pos hc]) kk
theorem ex_pop2 {v : zV} (hd : decode m.1 pc = .ok (.pop2, 1)) (hc : zcat v = 2) (hp : pc + 1 = pc') (kk : zEx scr d m (pc', ls, st, h) Q) : zEx scr d m (pc, ls, v :: st, h) Q := by
  subst hp; exact ex_go hd (Or.inr rfl) (fun _ => by simp only [zexec]; rw [if_pos hc]) kk
theorem ex_topi {x : Int32} (k : ∀ y : Int32, y = x → zEx scr d m (pc, ls, .inl y :: st, h) Q) : zEx scr d m (pc, ls, .inl x :: st, h) Q := k x rfl
theorem ex_hp (k : ∀ z : zH, z = h → zEx scr d m (pc, ls, st, z) Q) : zEx scr d m (pc, ls, st, h) Q := k h rfl
theorem ex_iret {x : Int32} {ty : FieldType} (hd : decode m.1 pc = .ok (.ireturn, 1)) (ht : m.2.2.2.1 = some ty) (hn : narrow ty (.int x) = .int x) (hq : Q (some (.inl x)) h) : zEx scr d m (pc, ls, [.inl x], h) Q :=
  ex_end hd (Or.inr rfl) (fun _ => by simp only [zexec, ht]; rw [if_pos hn]) hq
theorem ex_lret {x : Int64} (hd : decode m.1 pc = .ok (.lreturn, 1)) (ht : m.2.2.2.1 = some .long) (hq : Q (some (.inr (.inl x))) h) : zEx scr d m (pc, ls, [.inr (.inl x)], h) Q :=
  ex_end hd (Or.inr rfl) (fun _ => by simp only [zexec]; rw [if_pos ht]) hq
theorem ex_vret (hd : decode m.1 pc = .ok (.return_, 1)) (ht : m.2.2.2.1 = none) (hq : Q none h) : zEx scr d m (pc, ls, [], h) Q :=
  ex_end hd (Or.inr rfl) (fun _ => by simp only [zexec]; rw [if_pos ht]) hq
/-- calls: the arguments lie on the stack, the last on top -/
theorem ex_gets (hd : decode m.1 pc = .ok (.getstatic zgsk, 3)) (ho : m.2.1 = 6) (hp : pc + 3 = pc') (kk : zEx scr d m (pc', ls, .inr (.inr (some 1000001)) :: st, h) Q) : zEx scr d m (pc, ls, st, h) Q := by
  subst hp; exact ex_go hd (Or.inr rfl) (fun _ => by simp only [zexec]; rw [if_pos ⟨ho, trivial⟩]) kk
theorem ex_strlen {k na a : Nat} {bs : List Int32} (hd : decode m.1 pc = .ok (.invokevirtual k, 3)) (hz : zmth m.2.1 k = some (0, na, mJ0_length_8abf5)) (hs : zsc a = some bs) (hw : zwd st ≤ 8) (hp : pc + 3 = pc') (kk : zEx scr d m (pc', ls, .inl (nI bs.length) :: st, h) Q) : zEx scr d m (pc, ls, .inr (.inr (some a)) :: st, h) Q := by
  subst hp
  refine ex_go hd (Or.inr rfl) (fun _ => ?_) kk
  simp only [zexec, hz]
  rw [if_pos trivial, if_pos trivial]
  simp only [zstr, hs]
  rw [if_pos ⟨trivial, hw⟩]
theorem ex_strchar {k na a : Nat} {i : Int32} {bs : List Int32} (hd : decode m.1 pc = .ok (.invokevirtual k, 3)) (hz : zmth m.2.1 k = some (0, na, mJ0_charAt_5068e)) (hs : zsc a = some bs) (hw : zwd st ≤ 8) (hi : zin i bs.length = true) (hp : pc + 3 = pc') (kk : zEx scr d m (pc', ls, .inl (bs.getD i.toNatClampNeg 0) :: st, h) Q) : zEx scr d m (pc, ls, .inl i :: .inr (.inr (some a)) :: st, h) Q := by
  subst hp
  refine ex_go hd (Or.inr rfl) (fun _ => ?_) kk
  simp only [zexec, hz]
  rw [if_pos trivial, if_pos trivial]
  simp only [zstr, hs]
  rw [if_pos ⟨trivial, hw, hi⟩]
theorem ex_callv {k na a n : Nat} {cm : zM} {vs rest : List zV} {Qc : Option zV → zH → Prop} (hd : decode m.1 pc = .ok (.invokevirtual k, 3)) (hz : zmth m.2.1 k = some (0, na, cm)) (hst : na ≤ st.length ∧ zwd (st.drop na) ≤ 8) (hv : (st.take na).reverse = .inr (.inr (some a)) :: vs) (hr : st.drop na = rest) (hs : zsh h a = some (cm.2.1, n)) (hci : cm.2.1 < 13) (hw : zwd (.inr (.inr (some a)) :: vs) ≤ cm.2.2.1) (hp : pc + 3 = pc')
    (hc : zCt d cm (.inr (.inr (some a)) :: vs) h Qc) (kk : ∀ r h', Qc r h' → zEx scr (d + 1) m (pc', ls, r.toList ++ rest, h') Q) : zEx scr (d + 1) m (pc, ls, st, h) Q := by
  subst hp; subst hr
  refine ex_call hd (Or.inr rfl) (fun call r h' hq => ?_) hw hc kk
  simp only [zexec, hz]
  rw [if_pos trivial, if_neg (show ¬ cm.2.1 = 14 by omega)]
  unfold zcall
  rw [if_pos hst, if_neg (by decide), hv]
  simp only [hs]
  rw [if_pos ⟨trivial, hci⟩, hq]
theorem ex_calls {k kd na : Nat} {cm : zM} {vs rest : List zV} {Qc : Option zV → zH → Prop} (hd : decode m.1 pc = .ok (.invokestatic k, 3)) (hz : zmth m.2.1 k = some (kd, na, cm)) (hkd : kd = 1 ∨ kd = 3) (hst : na ≤ st.length ∧ zwd (st.drop na) ≤ 8) (hv : (st.take na).reverse = vs) (hr : st.drop na = rest) (hw : zwd vs ≤ cm.2.2.1) (hp : pc + 3 = pc')
    (hc : zCt d cm vs h Qc) (kk : ∀ r h', Qc r h' → zEx scr (d + 1) m (pc', ls, r.toList ++ rest, h') Q) : zEx scr (d + 1) m (pc, ls, st, h) Q := by
  subst hp; subst hr; subst hv
  refine ex_call hd (Or.inr rfl) (fun call r h' hq => ?_) hw hc kk
  simp only [zexec, hz]
  rw [if_pos hkd]
  unfold zcall
  rw [if_pos hst, if_pos hkd, hq]
theorem ex_calli {k kd na a n : Nat} {cm : zM} {vs rest : List zV} {Qc : Option zV → zH → Prop} (hd : decode m.1 pc = .ok (.invokespecial k, 3)) (hz : zmth m.2.1 k = some (kd, na, cm)) (hkd : kd = 2 ∨ kd = 4) (hst : na ≤ st.length ∧ zwd (st.drop na) ≤ 8) (hv : (st.take na).reverse = .inr (.inr (some a)) :: vs) (hr : st.drop na = rest) (hs : zsh h a = some (cm.2.1, n)) (hci : cm.2.1 < 13) (hw : zwd (.inr (.inr (some a)) :: vs) ≤ cm.2.2.1) (hp : pc + 3 = pc')
    (hc : zCt d cm (.inr (.inr (some a)) :: vs) h Qc) (kk : ∀ r h', Qc r h' → zEx scr (d + 1) m (pc', ls, r.toList ++ rest, h') Q) : zEx scr (d + 1) m (pc, ls, st, h) Q := by
  subst hp; subst hr
  refine ex_call hd (Or.inr rfl) (fun call r h' hq => ?_) hw hc kk
  simp only [zexec, hz]
  rw [if_pos hkd]
  unfold zcall
  rw [if_pos hst, if_neg (by rcases hkd with rfl | rfl <;> decide), hv]
  simp only [hs]
  rw [if_pos ⟨trivial, hci⟩, hq]
theorem ex_obj {k na a : Nat} {cm : zM} (hd : decode m.1 pc = .ok (.invokespecial k, 3)) (hz : zmth m.2.1 k = some (10, na, cm)) (hw : zwd st ≤ 8) (hp : pc + 3 = pc') (kk : zEx scr (d + 1) m (pc', ls, st, h) Q) : zEx scr (d + 1) m (pc, ls, .inr (.inr (some a)) :: st, h) Q := by
  subst hp
  refine ex_go hd (Or.inr rfl) (fun _ => ?_) kk
  simp only [zexec, hz]
  rw [if_neg (by decide), if_pos trivial]
  have e : decide (0 < d + 1) = true := by simp
  rw [e]
  unfold zprim
  rw [if_pos rfl, if_pos rfl]
  simp only
  rw [if_pos hw]
theorem ex_min {k na : Nat} {cm : zM} {x y v : Int32} (hd : decode m.1 pc = .ok (.invokestatic k, 3)) (hz : zmth m.2.1 k = some (12, na, cm)) (hw : zwd st ≤ 8) (hv : (if y < x then y else x) = v) (hp : pc + 3 = pc') (kk : zEx scr (d + 1) m (pc', ls, .inl v :: st, h) Q) : zEx scr (d + 1) m (pc, ls, .inl y :: .inl x :: st, h) Q := by
  subst hp; subst hv
  refine ex_go hd (Or.inr rfl) (fun _ => ?_) kk
  simp only [zexec, hz]
  rw [if_neg (by decide), if_neg (by decide), if_neg (by decide)]
  have e : decide (0 < d + 1) = true := by simp
  rw [e]
  unfold zprim
  rw [if_pos rfl, if_neg (by decide), if_neg (by decide), if_pos rfl]
  simp only
  rw [if_pos hw]
end ZX
