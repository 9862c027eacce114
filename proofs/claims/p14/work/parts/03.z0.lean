/-! code read quickly: its bytes as numbers, one lemma for each opcode that occurs -/
abbrev dLf : Type := Nat × Instr × Nat
noncomputable def dFl (t : Lean.RArray dLf) : List dLf := @Lean.RArray.rec dLf (fun _ => List dLf) (fun q => [q]) (fun _ _ _ l r => l ++ r) t
theorem dFl_mem (pc : Nat) : ∀ t : Lean.RArray dLf, t.get pc ∈ dFl t
  | .leaf q => List.mem_singleton.mpr rfl
  | .branch p l r => by
    show @Bool.rec (fun _ => dLf) (l.get pc) (r.get pc) (Nat.ble p pc) ∈ dFl l ++ dFl r
    cases Nat.ble p pc with
    | false => exact List.mem_append_left _ (dFl_mem pc l)
    | true => exact List.mem_append_right _ (dFl_mem pc r)
theorem d_at {c : ByteArray} {o : List dLf} {t : Lean.RArray dLf} (h : ∀ q ∈ o, decode c q.1 = .ok (q.2.1, q.2.2)) (e : dFl t = o) (pc : Nat) : decode c (t.get pc).1 = .ok ((t.get pc).2.1, (t.get pc).2.2) := h _ (by rw [← e]; exact dFl_mem pc t)
theorem d_by {c : ByteArray} {pc len : Nat} {i : Instr} {q : dLf} (h : decode c q.1 = .ok (q.2.1, q.2.2)) (e : q = (pc, i, len)) : decode c pc = .ok (i, len) := by
  rw [e] at h
  exact h
def qAt (c : ByteArray) (p b : Nat) : Prop := ∃ h : p < c.size, (c[p]'h).toNat = b
section QD
variable {c : ByteArray} {p q a b : Nat} {α β : Type}
theorem q_bind {r : ClassFile.Decoder α} {k : α → ClassFile.Decoder β} {x : α} {y : Except ClassFile.DecodeError (β × Nat)} (h : r c p = .ok (x, q)) (hk : k x c q = y) : (r >>= k) c p = y := by
  have e : (r >>= k) c p = (r c p >>= fun z => k z.1 c z.2) := rfl
  rw [e, h]
  exact hk
theorem q_map {r : ClassFile.Decoder α} {f : α → β} {x : α} (h : r c p = .ok (x, q)) : (f <$> r) c p = .ok (f x, q) := by
  have e : (f <$> r) c p = (r c p >>= fun z => Except.ok (f z.1, z.2)) := rfl
  rw [e, h]
  rfl
theorem q_u1 (h : qAt c p b) : (ClassFile.Reader.u1 : ClassFile.Decoder Nat) c p = .ok (b, p + 1) := by
  obtain ⟨h, e⟩ := h
  have u : (ClassFile.Reader.u1 : ClassFile.Decoder Nat) c p = (if h : p < c.size then (do set (p + 1); pure (c[p]'h).toNat : ClassFile.Decoder Nat) else throw (ClassFile.HasTruncated.truncated p)) c p := rfl
  rw [u, dif_pos h, e]
  rfl
theorem q_u2 (h : qAt c p a) (h2 : qAt c (p + 1) b) : (ClassFile.Reader.u2 : ClassFile.Decoder Nat) c p = .ok (a * 256 + b, p + 2) := by
  unfold ClassFile.Reader.u2
  exact q_bind (q_u1 h) (q_bind (q_u1 h2) rfl)
theorem q_s1 (h : qAt c p b) : (ClassFile.Reader.s1 : ClassFile.Decoder Int) c p = .ok (ClassFile.Reader.signed 8 b, p + 1) := by
  unfold ClassFile.Reader.s1
  exact q_map (q_u1 h)
theorem q_s2 (h : qAt c p a) (h2 : qAt c (p + 1) b) : (ClassFile.Reader.s2 : ClassFile.Decoder Int) c p = .ok (ClassFile.Reader.signed 16 (a * 256 + b), p + 2) := by
  unfold ClassFile.Reader.s2
  exact q_map (q_u2 h h2)
theorem q_dec {i : Instr} {len : Nat} (h : ClassFile.Decoder.instr p c p = .ok (i, p + len)) : decode c p = .ok (i, len) := by
  have e : decode c p = (ClassFile.Decoder.instr p c p >>= fun z => Except.ok (z.1, z.2 - p)) := rfl
  rw [e, h]
  show Except.ok (i, p + len - p) = _
  rw [Nat.add_sub_cancel_left]
end QD
/-- opcode, instruction by two operand bytes, length -/
abbrev qL : Type := Nat × (Nat → Nat → Instr) × Nat
def qOK (l : qL) : Prop := ∀ (c : ByteArray) (p a b : Nat), qAt c p l.1 → (2 ≤ l.2.2 → qAt c (p + 1) a) → (3 ≤ l.2.2 → qAt c (p + 2) b) → decode c p = .ok (l.2.1 a b, l.2.2)
noncomputable def qFl (t : Lean.RArray qL) : List qL := @Lean.RArray.rec qL (fun _ => List qL) (fun q => [q]) (fun _ _ _ l r => l ++ r) t
theorem qFl_mem (pc : Nat) : ∀ t : Lean.RArray qL, t.get pc ∈ qFl t
  | .leaf q => List.mem_singleton.mpr rfl
  | .branch p l r => by
    show @Bool.rec (fun _ => qL) (l.get pc) (r.get pc) (Nat.ble p pc) ∈ qFl l ++ qFl r
    cases Nat.ble p pc with
    | false => exact List.mem_append_left _ (qFl_mem pc l)
    | true => exact List.mem_append_right _ (qFl_mem pc r)
/-- one row against the bytes that are left -/
def qArg (lf : qL) (i : Instr) (l : Nat) (r : List Nat) : Bool := match r with
  | [] => Nat.ble l 1 && decide (i = lf.2.1 0 0)
  | a :: r => match r with
    | [] => Nat.ble l 2 && decide (i = lf.2.1 a 0)
    | b :: _ => Nat.ble l 3 && decide (i = lf.2.1 a b)
def qLf (lf : qL) (op : Nat) (i : Instr) (l : Nat) (r : List Nat) : Bool := Nat.beq lf.1 op && Nat.beq lf.2.2 l && qArg lf i l r
def qOne (t : Lean.RArray qL) (bs : List Nat) (i : Instr) (l : Nat) : Bool := match bs with
  | [] => false
  | op :: r => qLf (t.get op) op i l r
noncomputable def qGo (t : Lean.RArray qL) (o : List dLf) : List Nat → Nat → Bool := @List.rec dLf (fun _ => List Nat → Nat → Bool) (fun _ _ => true) (fun q _ ih bs pc => Nat.beq pc q.1 && qOne t bs q.2.1 q.2.2 && ih (bs.drop q.2.2) (q.1 + q.2.2)) o
theorem q_at {c : ByteArray} {bs r : List Nat} {pc x : Nat} (hb : c.data.toList.map UInt8.toNat = bs) (e : bs.drop pc = x :: r) : qAt c pc x := by
  have e0 : bs[pc]? = some x := by
    have := List.getElem?_drop (xs := bs) (i := pc) (j := 0)
    rw [e] at this
    exact this.symm
  rw [← hb, List.getElem?_map] at e0
  cases hc : c.data.toList[pc]? with
  | none => rw [hc] at e0; cases e0
  | some y =>
    rw [hc] at e0
    have ey : y.toNat = x := Option.some.inj e0
    obtain ⟨h1, h2⟩ := List.getElem?_eq_some_iff.mp hc
    refine ⟨h1, ?_⟩
    rw [← ey, ← h2]
    rfl
theorem q_go {c : ByteArray} {t : Lean.RArray qL} {bs : List Nat} (ht : ∀ l ∈ qFl t, qOK l) (hb : c.data.toList.map UInt8.toNat = bs) : ∀ (o : List dLf) (pc : Nat), qGo t o (bs.drop pc) pc = true → ∀ q ∈ o, decode c q.1 = .ok (q.2.1, q.2.2)
  | [], _, _, q, hq => by cases hq
  | (p, i, l) :: o, pc, h, q, hq => by
    have h : (Nat.beq pc p && qOne t (bs.drop pc) i l && qGo t o ((bs.drop pc).drop l) (p + l)) = true := h
    rw [Bool.and_eq_true, Bool.and_eq_true] at h
    obtain ⟨⟨h1, h2⟩, h3⟩ := h
    have h1 : pc = p := Nat.eq_of_beq_eq_true h1
    subst h1
    rw [List.drop_drop] at h3
    rcases List.mem_cons.mp hq with e | hq
    · subst e
      show decode c pc = .ok (i, l)
      cases e0 : bs.drop pc with
      | nil => rw [e0] at h2; cases h2
      | cons op r =>
        rw [e0] at h2
        have h2 : (Nat.beq (t.get op).1 op && Nat.beq (t.get op).2.2 l && qArg (t.get op) i l r) = true := h2
        rw [Bool.and_eq_true, Bool.and_eq_true] at h2
        obtain ⟨⟨k1, k2⟩, k3⟩ := h2
        have k1 : (t.get op).1 = op := Nat.eq_of_beq_eq_true k1
        have k2 : (t.get op).2.2 = l := Nat.eq_of_beq_eq_true k2
        have hk := ht _ (qFl_mem op t)
        have a0 := q_at hb e0
        have dr : ∀ n, bs.drop (pc + n) = (op :: r).drop n := fun n => by rw [← e0, List.drop_drop]
        cases r with
        | nil =>
          have k3 : (Nat.ble l 1 && decide (i = (t.get op).2.1 0 0)) = true := k3
          rw [Bool.and_eq_true, decide_eq_true_eq] at k3
          have := Nat.le_of_ble_eq_true k3.1
          rw [k3.2, ← k2]
          exact hk c pc 0 0 (by rw [k1]; exact a0) (fun z => absurd z (by omega)) (fun z => absurd z (by omega))
        | cons a r =>
          have a1 : qAt c (pc + 1) a := q_at (r := r) hb (dr 1)
          cases r with
          | nil =>
            have k3 : (Nat.ble l 2 && decide (i = (t.get op).2.1 a 0)) = true := k3
            rw [Bool.and_eq_true, decide_eq_true_eq] at k3
            have := Nat.le_of_ble_eq_true k3.1
            rw [k3.2, ← k2]
            exact hk c pc a 0 (by rw [k1]; exact a0) (fun _ => a1) (fun z => absurd z (by omega))
          | cons b r =>
            have a2 : qAt c (pc + 2) b := q_at (r := r) hb (dr 2)
            have k3 : (Nat.ble l 3 && decide (i = (t.get op).2.1 a b)) = true := k3
            rw [Bool.and_eq_true, decide_eq_true_eq] at k3
            rw [k3.2, ← k2]
            exact hk c pc a b (by rw [k1]; exact a0) (fun _ => a1) (fun _ => a2)
    · exact q_go ht hb o (pc + l) h3 q hq
theorem qx2 : qOK (2, fun _ _ => .iconst (-1), 1) := fun c p a b h0 h1 h2 => q_dec (q_bind (q_u1 h0) rfl)
theorem qx3 : qOK (3, fun _ _ => .iconst 0, 1) := fun c p a b h0 h1 h2 => q_dec (q_bind (q_u1 h0) rfl)
theorem qx4 : qOK (4, fun _ _ => .iconst 1, 1) := fun c p a b h0 h1 h2 => q_dec (q_bind (q_u1 h0) rfl)
theorem qx5 : qOK (5, fun _ _ => .iconst 2, 1) := fun c p a b h0 h1 h2 => q_dec (q_bind (q_u1 h0) rfl)
theorem qx6 : qOK (6, fun _ _ => .iconst 3, 1) := fun c p a b h0 h1 h2 => q_dec (q_bind (q_u1 h0) rfl)
theorem qx7 : qOK (7, fun _ _ => .iconst 4, 1) := fun c p a b h0 h1 h2 => q_dec (q_bind (q_u1 h0) rfl)
theorem qx8 : qOK (8, fun _ _ => .iconst 5, 1) := fun c p a b h0 h1 h2 => q_dec (q_bind (q_u1 h0) rfl)
theorem qx9 : qOK (9, fun _ _ => .lconst 0, 1) := fun c p a b h0 h1 h2 => q_dec (q_bind (q_u1 h0) rfl)
theorem qx16 : qOK (16, fun a _ => .bipush (ClassFile.Reader.signed 8 a), 2) := fun c p a b h0 h1 h2 => q_dec (q_bind (q_u1 h0) (q_bind (q_s1 (h1 (by decide))) rfl))
theorem qx17 : qOK (17, fun a b => .sipush (ClassFile.Reader.signed 16 (a * 256 + b)), 3) := fun c p a b h0 h1 h2 => q_dec (q_bind (q_u1 h0) (q_bind (q_s2 (h1 (by decide)) (h2 (by decide))) rfl))
theorem qx18 : qOK (18, fun a _ => .ldc a, 2) := fun c p a b h0 h1 h2 => q_dec (q_bind (q_u1 h0) (q_bind (q_u1 (h1 (by decide))) rfl))
theorem qx19 : qOK (19, fun a b => .ldc_w (a * 256 + b), 3) := fun c p a b h0 h1 h2 => q_dec (q_bind (q_u1 h0) (q_bind (q_u2 (h1 (by decide)) (h2 (by decide))) rfl))
theorem qx20 : qOK (20, fun a b => .ldc2_w (a * 256 + b), 3) := fun c p a b h0 h1 h2 => q_dec (q_bind (q_u1 h0) (q_bind (q_u2 (h1 (by decide)) (h2 (by decide))) rfl))
theorem qx21 : qOK (21, fun a _ => .iload a, 2) := fun c p a b h0 h1 h2 => q_dec (q_bind (q_u1 h0) (q_bind (q_u1 (h1 (by decide))) rfl))
theorem qx22 : qOK (22, fun a _ => .lload a, 2) := fun c p a b h0 h1 h2 => q_dec (q_bind (q_u1 h0) (q_bind (q_u1 (h1 (by decide))) rfl))
theorem qx25 : qOK (25, fun a _ => .aload a, 2) := fun c p a b h0 h1 h2 => q_dec (q_bind (q_u1 h0) (q_bind (q_u1 (h1 (by decide))) rfl))
theorem qx26 : qOK (26, fun _ _ => .iload_n 0, 1) := fun c p a b h0 h1 h2 => q_dec (q_bind (q_u1 h0) rfl)
theorem qx27 : qOK (27, fun _ _ => .iload_n 1, 1) := fun c p a b h0 h1 h2 => q_dec (q_bind (q_u1 h0) rfl)
theorem qx28 : qOK (28, fun _ _ => .iload_n 2, 1) := fun c p a b h0 h1 h2 => q_dec (q_bind (q_u1 h0) rfl)
theorem qx29 : qOK (29, fun _ _ => .iload_n 3, 1) := fun c p a b h0 h1 h2 => q_dec (q_bind (q_u1 h0) rfl)
theorem qx30 : qOK (30, fun _ _ => .lload_n 0, 1) := fun c p a b h0 h1 h2 => q_dec (q_bind (q_u1 h0) rfl)
theorem qx31 : qOK (31, fun _ _ => .lload_n 1, 1) := fun c p a b h0 h1 h2 => q_dec (q_bind (q_u1 h0) rfl)
theorem qx32 : qOK (32, fun _ _ => .lload_n 2, 1) := fun c p a b h0 h1 h2 => q_dec (q_bind (q_u1 h0) rfl)
theorem qx42 : qOK (42, fun _ _ => .aload_n 0, 1) := fun c p a b h0 h1 h2 => q_dec (q_bind (q_u1 h0) rfl)
theorem qx43 : qOK (43, fun _ _ => .aload_n 1, 1) := fun c p a b h0 h1 h2 => q_dec (q_bind (q_u1 h0) rfl)
theorem qx44 : qOK (44, fun _ _ => .aload_n 2, 1) := fun c p a b h0 h1 h2 => q_dec (q_bind (q_u1 h0) rfl)
theorem qx45 : qOK (45, fun _ _ => .aload_n 3, 1) := fun c p a b h0 h1 h2 => q_dec (q_bind (q_u1 h0) rfl)
theorem qx46 : qOK (46, fun _ _ => .iaload, 1) := fun c p a b h0 h1 h2 => q_dec (q_bind (q_u1 h0) rfl)
theorem qx47 : qOK (47, fun _ _ => .laload, 1) := fun c p a b h0 h1 h2 => q_dec (q_bind (q_u1 h0) rfl)
theorem qx50 : qOK (50, fun _ _ => .aaload, 1) := fun c p a b h0 h1 h2 => q_dec (q_bind (q_u1 h0) rfl)
theorem qx51 : qOK (51, fun _ _ => .baload, 1) := fun c p a b h0 h1 h2 => q_dec (q_bind (q_u1 h0) rfl)
theorem qx54 : qOK (54, fun a _ => .istore a, 2) := fun c p a b h0 h1 h2 => q_dec (q_bind (q_u1 h0) (q_bind (q_u1 (h1 (by decide))) rfl))
theorem qx55 : qOK (55, fun a _ => .lstore a, 2) := fun c p a b h0 h1 h2 => q_dec (q_bind (q_u1 h0) (q_bind (q_u1 (h1 (by decide))) rfl))
theorem qx58 : qOK (58, fun a _ => .astore a, 2) := fun c p a b h0 h1 h2 => q_dec (q_bind (q_u1 h0) (q_bind (q_u1 (h1 (by decide))) rfl))
theorem qx59 : qOK (59, fun _ _ => .istore_n 0, 1) := fun c p a b h0 h1 h2 => q_dec (q_bind (q_u1 h0) rfl)
theorem qx60 : qOK (60, fun _ _ => .istore_n 1, 1) := fun c p a b h0 h1 h2 => q_dec (q_bind (q_u1 h0) rfl)
theorem qx61 : qOK (61, fun _ _ => .istore_n 2, 1) := fun c p a b h0 h1 h2 => q_dec (q_bind (q_u1 h0) rfl)
theorem qx62 : qOK (62, fun _ _ => .istore_n 3, 1) := fun c p a b h0 h1 h2 => q_dec (q_bind (q_u1 h0) rfl)
theorem qx64 : qOK (64, fun _ _ => .lstore_n 1, 1) := fun c p a b h0 h1 h2 => q_dec (q_bind (q_u1 h0) rfl)
theorem qx76 : qOK (76, fun _ _ => .astore_n 1, 1) := fun c p a b h0 h1 h2 => q_dec (q_bind (q_u1 h0) rfl)
theorem qx77 : qOK (77, fun _ _ => .astore_n 2, 1) := fun c p a b h0 h1 h2 => q_dec (q_bind (q_u1 h0) rfl)
theorem qx78 : qOK (78, fun _ _ => .astore_n 3, 1) := fun c p a b h0 h1 h2 => q_dec (q_bind (q_u1 h0) rfl)
theorem qx79 : qOK (79, fun _ _ => .iastore, 1) := fun c p a b h0 h1 h2 => q_dec (q_bind (q_u1 h0) rfl)
theorem qx80 : qOK (80, fun _ _ => .lastore, 1) := fun c p a b h0 h1 h2 => q_dec (q_bind (q_u1 h0) rfl)
theorem qx83 : qOK (83, fun _ _ => .aastore, 1) := fun c p a b h0 h1 h2 => q_dec (q_bind (q_u1 h0) rfl)
theorem qx84 : qOK (84, fun _ _ => .bastore, 1) := fun c p a b h0 h1 h2 => q_dec (q_bind (q_u1 h0) rfl)
theorem qx87 : qOK (87, fun _ _ => .pop, 1) := fun c p a b h0 h1 h2 => q_dec (q_bind (q_u1 h0) rfl)
theorem qx88 : qOK (88, fun _ _ => .pop2, 1) := fun c p a b h0 h1 h2 => q_dec (q_bind (q_u1 h0) rfl)
theorem qx89 : qOK (89, fun _ _ => .dup, 1) := fun c p a b h0 h1 h2 => q_dec (q_bind (q_u1 h0) rfl)
theorem qx92 : qOK (92, fun _ _ => .dup2, 1) := fun c p a b h0 h1 h2 => q_dec (q_bind (q_u1 h0) rfl)
theorem qx96 : qOK (96, fun _ _ => .iadd, 1) := fun c p a b h0 h1 h2 => q_dec (q_bind (q_u1 h0) rfl)
theorem qx100 : qOK (100, fun _ _ => .isub, 1) := fun c p a b h0 h1 h2 => q_dec (q_bind (q_u1 h0) rfl)
theorem qx104 : qOK (104, fun _ _ => .imul, 1) := fun c p a b h0 h1 h2 => q_dec (q_bind (q_u1 h0) rfl)
theorem qx108 : qOK (108, fun _ _ => .idiv, 1) := fun c p a b h0 h1 h2 => q_dec (q_bind (q_u1 h0) rfl)
theorem qx109 : qOK (109, fun _ _ => .ldiv, 1) := fun c p a b h0 h1 h2 => q_dec (q_bind (q_u1 h0) rfl)
theorem qx112 : qOK (112, fun _ _ => .irem, 1) := fun c p a b h0 h1 h2 => q_dec (q_bind (q_u1 h0) rfl)
theorem qx113 : qOK (113, fun _ _ => .lrem, 1) := fun c p a b h0 h1 h2 => q_dec (q_bind (q_u1 h0) rfl)
theorem qx120 : qOK (120, fun _ _ => .ishl, 1) := fun c p a b h0 h1 h2 => q_dec (q_bind (q_u1 h0) rfl)
theorem qx121 : qOK (121, fun _ _ => .lshl, 1) := fun c p a b h0 h1 h2 => q_dec (q_bind (q_u1 h0) rfl)
theorem qx122 : qOK (122, fun _ _ => .ishr, 1) := fun c p a b h0 h1 h2 => q_dec (q_bind (q_u1 h0) rfl)
theorem qx124 : qOK (124, fun _ _ => .iushr, 1) := fun c p a b h0 h1 h2 => q_dec (q_bind (q_u1 h0) rfl)
theorem qx126 : qOK (126, fun _ _ => .iand, 1) := fun c p a b h0 h1 h2 => q_dec (q_bind (q_u1 h0) rfl)
theorem qx128 : qOK (128, fun _ _ => .ior, 1) := fun c p a b h0 h1 h2 => q_dec (q_bind (q_u1 h0) rfl)
theorem qx129 : qOK (129, fun _ _ => .lor, 1) := fun c p a b h0 h1 h2 => q_dec (q_bind (q_u1 h0) rfl)
theorem qx130 : qOK (130, fun _ _ => .ixor, 1) := fun c p a b h0 h1 h2 => q_dec (q_bind (q_u1 h0) rfl)
theorem qx132 : qOK (132, fun a b => .iinc a (ClassFile.Reader.signed 8 b), 3) := fun c p a b h0 h1 h2 => q_dec (q_bind (q_u1 h0) (q_bind (q_u1 (h1 (by decide))) (q_bind (q_s1 (h2 (by decide))) rfl)))
theorem qx133 : qOK (133, fun _ _ => .i2l, 1) := fun c p a b h0 h1 h2 => q_dec (q_bind (q_u1 h0) rfl)
theorem qx145 : qOK (145, fun _ _ => .i2b, 1) := fun c p a b h0 h1 h2 => q_dec (q_bind (q_u1 h0) rfl)
theorem qx146 : qOK (146, fun _ _ => .i2c, 1) := fun c p a b h0 h1 h2 => q_dec (q_bind (q_u1 h0) rfl)
theorem qx148 : qOK (148, fun _ _ => .lcmp, 1) := fun c p a b h0 h1 h2 => q_dec (q_bind (q_u1 h0) rfl)
theorem qx153 : qOK (153, fun a b => .ifCond .eq (ClassFile.Reader.signed 16 (a * 256 + b)), 3) := fun c p a b h0 h1 h2 => q_dec (q_bind (q_u1 h0) (q_bind (q_s2 (h1 (by decide)) (h2 (by decide))) rfl))
theorem qx154 : qOK (154, fun a b => .ifCond .ne (ClassFile.Reader.signed 16 (a * 256 + b)), 3) := fun c p a b h0 h1 h2 => q_dec (q_bind (q_u1 h0) (q_bind (q_s2 (h1 (by decide)) (h2 (by decide))) rfl))
theorem qx155 : qOK (155, fun a b => .ifCond .lt (ClassFile.Reader.signed 16 (a * 256 + b)), 3) := fun c p a b h0 h1 h2 => q_dec (q_bind (q_u1 h0) (q_bind (q_s2 (h1 (by decide)) (h2 (by decide))) rfl))
theorem qx156 : qOK (156, fun a b => .ifCond .ge (ClassFile.Reader.signed 16 (a * 256 + b)), 3) := fun c p a b h0 h1 h2 => q_dec (q_bind (q_u1 h0) (q_bind (q_s2 (h1 (by decide)) (h2 (by decide))) rfl))
theorem qx157 : qOK (157, fun a b => .ifCond .gt (ClassFile.Reader.signed 16 (a * 256 + b)), 3) := fun c p a b h0 h1 h2 => q_dec (q_bind (q_u1 h0) (q_bind (q_s2 (h1 (by decide)) (h2 (by decide))) rfl))
theorem qx158 : qOK (158, fun a b => .ifCond .le (ClassFile.Reader.signed 16 (a * 256 + b)), 3) := fun c p a b h0 h1 h2 => q_dec (q_bind (q_u1 h0) (q_bind (q_s2 (h1 (by decide)) (h2 (by decide))) rfl))
theorem qx159 : qOK (159, fun a b => .if_icmp .eq (ClassFile.Reader.signed 16 (a * 256 + b)), 3) := fun c p a b h0 h1 h2 => q_dec (q_bind (q_u1 h0) (q_bind (q_s2 (h1 (by decide)) (h2 (by decide))) rfl))
theorem qx160 : qOK (160, fun a b => .if_icmp .ne (ClassFile.Reader.signed 16 (a * 256 + b)), 3) := fun c p a b h0 h1 h2 => q_dec (q_bind (q_u1 h0) (q_bind (q_s2 (h1 (by decide)) (h2 (by decide))) rfl))
theorem qx161 : qOK (161, fun a b => .if_icmp .lt (ClassFile.Reader.signed 16 (a * 256 + b)), 3) := fun c p a b h0 h1 h2 => q_dec (q_bind (q_u1 h0) (q_bind (q_s2 (h1 (by decide)) (h2 (by decide))) rfl))
theorem qx162 : qOK (162, fun a b => .if_icmp .ge (ClassFile.Reader.signed 16 (a * 256 + b)), 3) := fun c p a b h0 h1 h2 => q_dec (q_bind (q_u1 h0) (q_bind (q_s2 (h1 (by decide)) (h2 (by decide))) rfl))
theorem qx163 : qOK (163, fun a b => .if_icmp .gt (ClassFile.Reader.signed 16 (a * 256 + b)), 3) := fun c p a b h0 h1 h2 => q_dec (q_bind (q_u1 h0) (q_bind (q_s2 (h1 (by decide)) (h2 (by decide))) rfl))
theorem qx164 : qOK (164, fun a b => .if_icmp .le (ClassFile.Reader.signed 16 (a * 256 + b)), 3) := fun c p a b h0 h1 h2 => q_dec (q_bind (q_u1 h0) (q_bind (q_s2 (h1 (by decide)) (h2 (by decide))) rfl))
theorem qx167 : qOK (167, fun a b => .goto (ClassFile.Reader.signed 16 (a * 256 + b)), 3) := fun c p a b h0 h1 h2 => q_dec (q_bind (q_u1 h0) (q_bind (q_s2 (h1 (by decide)) (h2 (by decide))) rfl))
theorem qx172 : qOK (172, fun _ _ => .ireturn, 1) := fun c p a b h0 h1 h2 => q_dec (q_bind (q_u1 h0) rfl)
theorem qx173 : qOK (173, fun _ _ => .lreturn, 1) := fun c p a b h0 h1 h2 => q_dec (q_bind (q_u1 h0) rfl)
theorem qx177 : qOK (177, fun _ _ => .return_, 1) := fun c p a b h0 h1 h2 => q_dec (q_bind (q_u1 h0) rfl)
theorem qx178 : qOK (178, fun a b => .getstatic (a * 256 + b), 3) := fun c p a b h0 h1 h2 => q_dec (q_bind (q_u1 h0) (q_bind (q_u2 (h1 (by decide)) (h2 (by decide))) rfl))
theorem qx180 : qOK (180, fun a b => .getfield (a * 256 + b), 3) := fun c p a b h0 h1 h2 => q_dec (q_bind (q_u1 h0) (q_bind (q_u2 (h1 (by decide)) (h2 (by decide))) rfl))
theorem qx181 : qOK (181, fun a b => .putfield (a * 256 + b), 3) := fun c p a b h0 h1 h2 => q_dec (q_bind (q_u1 h0) (q_bind (q_u2 (h1 (by decide)) (h2 (by decide))) rfl))
theorem qx182 : qOK (182, fun a b => .invokevirtual (a * 256 + b), 3) := fun c p a b h0 h1 h2 => q_dec (q_bind (q_u1 h0) (q_bind (q_u2 (h1 (by decide)) (h2 (by decide))) rfl))
theorem qx183 : qOK (183, fun a b => .invokespecial (a * 256 + b), 3) := fun c p a b h0 h1 h2 => q_dec (q_bind (q_u1 h0) (q_bind (q_u2 (h1 (by decide)) (h2 (by decide))) rfl))
theorem qx184 : qOK (184, fun a b => .invokestatic (a * 256 + b), 3) := fun c p a b h0 h1 h2 => q_dec (q_bind (q_u1 h0) (q_bind (q_u2 (h1 (by decide)) (h2 (by decide))) rfl))
theorem qx187 : qOK (187, fun a b => .new (a * 256 + b), 3) := fun c p a b h0 h1 h2 => q_dec (q_bind (q_u1 h0) (q_bind (q_u2 (h1 (by decide)) (h2 (by decide))) rfl))
theorem qx189 : qOK (189, fun a b => .anewarray (a * 256 + b), 3) := fun c p a b h0 h1 h2 => q_dec (q_bind (q_u1 h0) (q_bind (q_u2 (h1 (by decide)) (h2 (by decide))) rfl))
theorem qx190 : qOK (190, fun _ _ => .arraylength, 1) := fun c p a b h0 h1 h2 => q_dec (q_bind (q_u1 h0) rfl)
theorem qx191 : qOK (191, fun _ _ => .athrow, 1) := fun c p a b h0 h1 h2 => q_dec (q_bind (q_u1 h0) rfl)
def qT : Lean.RArray qL := .branch 89 (.branch 43 (.branch 20 (.branch 8 (.branch 5 (.branch 3 (.leaf (2, fun a b => .iconst (-1), 1)) (.branch 4 (.leaf (3, fun a b => .iconst 0, 1)) (.leaf (4, fun a b => .iconst 1, 1)))) (.branch 6 (.leaf (5, fun a b => .iconst 2, 1)) (.branch 7 (.leaf (6, fun a b => .iconst 3, 1)) (.leaf (7, fun a b => .iconst 4, 1))))) (.branch 17 (.branch 9 (.leaf (8, fun a b => .iconst 5, 1)) (.branch 16 (.leaf (9, fun a b => .lconst 0, 1)) (.leaf (16, fun a b => .bipush (ClassFile.Reader.signed 8 a), 2)))) (.branch 18 (.leaf (17, fun a b => .sipush (ClassFile.Reader.signed 16 (a * 256 + b)), 3)) (.branch 19 (.leaf (18, fun a b => .ldc a, 2)) (.leaf (19, fun a b => .ldc_w (a * 256 + b), 3)))))) (.branch 28 (.branch 25 (.branch 21 (.leaf (20, fun a b => .ldc2_w (a * 256 + b), 3)) (.branch 22 (.leaf (21, fun a b => .iload a, 2)) (.leaf (22, fun a b => .lload a, 2)))) (.branch 26 (.leaf (25, fun a b => .aload a, 2)) (.branch 27 (.leaf (26, fun a b => .iload_n 0, 1)) (.leaf (27, fun a b => .iload_n 1, 1))))) (.branch 31 (.branch 29 (.leaf (28, fun a b => .iload_n 2, 1)) (.branch 30 (.leaf (29, fun a b => .iload_n 3, 1)) (.leaf (30, fun a b => .lload_n 0, 1)))) (.branch 32 (.leaf (31, fun a b => .lload_n 1, 1)) (.branch 42 (.leaf (32, fun a b => .lload_n 2, 1)) (.leaf (42, fun a b => .aload_n 0, 1))))))) (.branch 61 (.branch 51 (.branch 46 (.branch 44 (.leaf (43, fun a b => .aload_n 1, 1)) (.branch 45 (.leaf (44, fun a b => .aload_n 2, 1)) (.leaf (45, fun a b => .aload_n 3, 1)))) (.branch 47 (.leaf (46, fun a b => .iaload, 1)) (.branch 50 (.leaf (47, fun a b => .laload, 1)) (.leaf (50, fun a b => .aaload, 1))))) (.branch 58 (.branch 54 (.leaf (51, fun a b => .baload, 1)) (.branch 55 (.leaf (54, fun a b => .istore a, 2)) (.leaf (55, fun a b => .lstore a, 2)))) (.branch 59 (.leaf (58, fun a b => .astore a, 2)) (.branch 60 (.leaf (59, fun a b => .istore_n 0, 1)) (.leaf (60, fun a b => .istore_n 1, 1)))))) (.branch 79 (.branch 76 (.branch 62 (.leaf (61, fun a b => .istore_n 2, 1)) (.branch 64 (.leaf (62, fun a b => .istore_n 3, 1)) (.leaf (64, fun a b => .lstore_n 1, 1)))) (.branch 77 (.leaf (76, fun a b => .astore_n 1, 1)) (.branch 78 (.leaf (77, fun a b => .astore_n 2, 1)) (.leaf (78, fun a b => .astore_n 3, 1))))) (.branch 84 (.branch 80 (.leaf (79, fun a b => .iastore, 1)) (.branch 83 (.leaf (80, fun a b => .lastore, 1)) (.leaf (83, fun a b => .aastore, 1)))) (.branch 87 (.leaf (84, fun a b => .bastore, 1)) (.branch 88 (.leaf (87, fun a b => .pop, 1)) (.leaf (88, fun a b => .pop2, 1)))))))) (.branch 155 (.branch 124 (.branch 109 (.branch 100 (.branch 92 (.leaf (89, fun a b => .dup, 1)) (.branch 96 (.leaf (92, fun a b => .dup2, 1)) (.leaf (96, fun a b => .iadd, 1)))) (.branch 104 (.leaf (100, fun a b => .isub, 1)) (.branch 108 (.leaf (104, fun a b => .imul, 1)) (.leaf (108, fun a b => .idiv, 1))))) (.branch 120 (.branch 112 (.leaf (109, fun a b => .ldiv, 1)) (.branch 113 (.leaf (112, fun a b => .irem, 1)) (.leaf (113, fun a b => .lrem, 1)))) (.branch 121 (.leaf (120, fun a b => .ishl, 1)) (.branch 122 (.leaf (121, fun a b => .lshl, 1)) (.leaf (122, fun a b => .ishr, 1)))))) (.branch 133 (.branch 129 (.branch 126 (.leaf (124, fun a b => .iushr, 1)) (.branch 128 (.leaf (126, fun a b => .iand, 1)) (.leaf (128, fun a b => .ior, 1)))) (.branch 130 (.leaf (129, fun a b => .lor, 1)) (.branch 132 (.leaf (130, fun a b => .ixor, 1)) (.leaf (132, fun a b => .iinc a (ClassFile.Reader.signed 8 b), 3))))) (.branch 148 (.branch 145 (.leaf (133, fun a b => .i2l, 1)) (.branch 146 (.leaf (145, fun a b => .i2b, 1)) (.leaf (146, fun a b => .i2c, 1)))) (.branch 153 (.leaf (148, fun a b => .lcmp, 1)) (.branch 154 (.leaf (153, fun a b => .ifCond .eq (ClassFile.Reader.signed 16 (a * 256 + b)), 3)) (.leaf (154, fun a b => .ifCond .ne (ClassFile.Reader.signed 16 (a * 256 + b)), 3))))))) (.branch 173 (.branch 161 (.branch 158 (.branch 156 (.leaf (155, fun a b => .ifCond .lt (ClassFile.Reader.signed 16 (a * 256 + b)), 3)) (.branch 157 (.leaf (156, fun a b => .ifCond .ge (ClassFile.Reader.signed 16 (a * 256 + b)), 3)) (.leaf (157, fun a b => .ifCond .gt (ClassFile.Reader.signed 16 (a * 256 + b)), 3)))) (.branch 159 (.leaf (158, fun a b => .ifCond .le (ClassFile.Reader.signed 16 (a * 256 + b)), 3)) (.branch 160 (.leaf (159, fun a b => .if_icmp .eq (ClassFile.Reader.signed 16 (a * 256 + b)), 3)) (.leaf (160, fun a b => .if_icmp .ne (ClassFile.Reader.signed 16 (a * 256 + b)), 3))))) (.branch 164 (.branch 162 (.leaf (161, fun a b => .if_icmp .lt (ClassFile.Reader.signed 16 (a * 256 + b)), 3)) (.branch 163 (.leaf (162, fun a b => .if_icmp .ge (ClassFile.Reader.signed 16 (a * 256 + b)), 3)) (.leaf (163, fun a b => .if_icmp .gt (ClassFile.Reader.signed 16 (a * 256 + b)), 3)))) (.branch 167 (.leaf (164, fun a b => .if_icmp .le (ClassFile.Reader.signed 16 (a * 256 + b)), 3)) (.branch 172 (.leaf (167, fun a b => .goto (ClassFile.Reader.signed 16 (a * 256 + b)), 3)) (.leaf (172, fun a b => .ireturn, 1)))))) (.branch 183 (.branch 180 (.branch 177 (.leaf (173, fun a b => .lreturn, 1)) (.branch 178 (.leaf (177, fun a b => .return_, 1)) (.leaf (178, fun a b => .getstatic (a * 256 + b), 3)))) (.branch 181 (.leaf (180, fun a b => .getfield (a * 256 + b), 3)) (.branch 182 (.leaf (181, fun a b => .putfield (a * 256 + b), 3)) (.leaf (182, fun a b => .invokevirtual (a * 256 + b), 3))))) (.branch 189 (.branch 184 (.leaf (183, fun a b => .invokespecial (a * 256 + b), 3)) (.branch 187 (.leaf (184, fun a b => .invokestatic (a * 256 + b), 3)) (.leaf (187, fun a b => .new (a * 256 + b), 3)))) (.branch 190 (.leaf (189, fun a b => .anewarray (a * 256 + b), 3)) (.branch 191 (.leaf (190, fun a b => .arraylength, 1)) (.leaf (191, fun a b => .athrow, 1))))))))
set_option maxRecDepth 100000 in
theorem qT_ok : ∀ l ∈ qFl qT, qOK l := by
  have e : qFl qT = [(2, fun a b => .iconst (-1), 1), (3, fun a b => .iconst 0, 1), (4, fun a b => .iconst 1, 1), (5, fun a b => .iconst 2, 1), (6, fun a b => .iconst 3, 1), (7, fun a b => .iconst 4, 1), (8, fun a b => .iconst 5, 1), (9, fun a b => .lconst 0, 1), (16, fun a b => .bipush (ClassFile.Reader.signed 8 a), 2), (17, fun a b => .sipush (ClassFile.Reader.signed 16 (a * 256 + b)), 3), (18, fun a b => .ldc a, 2), (19, fun a b => .ldc_w (a * 256 + b), 3), (20, fun a b => .ldc2_w (a * 256 + b), 3), (21, fun a b => .iload a, 2), (22, fun a b => .lload a, 2), (25, fun a b => .aload a, 2), (26, fun a b => .iload_n 0, 1), (27, fun a b => .iload_n 1, 1), (28, fun a b => .iload_n 2, 1), (29, fun a b => .iload_n 3, 1), (30, fun a b => .lload_n 0, 1), (31, fun a b => .lload_n 1, 1), (32, fun a b => .lload_n 2, 1), (42, fun a b => .aload_n 0, 1), (43, fun a b => .aload_n 1, 1), (44, fun a b => .aload_n 2, 1), (45, fun a b => .aload_n 3, 1), (46, fun a b => .iaload, 1), (47, fun a b => .laload, 1), (50, fun a b => .aaload, 1), (51, fun a b => .baload, 1), (54, fun a b => .istore a, 2), (55, fun a b => .lstore a, 2), (58, fun a b => .astore a, 2), (59, fun a b => .istore_n 0, 1), (60, fun a b => .istore_n 1, 1), (61, fun a b => .istore_n 2, 1), (62, fun a b => .istore_n 3, 1), (64, fun a b => .lstore_n 1, 1), (76, fun a b => .astore_n 1, 1), (77, fun a b => .astore_n 2, 1), (78, fun a b => .astore_n 3, 1), (79, fun a b => .iastore, 1), (80, fun a b => .lastore, 1), (83, fun a b => .aastore, 1), (84, fun a b => .bastore, 1), (87, fun a b => .pop, 1), (88, fun a b => .pop2, 1), (89, fun a b => .dup, 1), (92, fun a b => .dup2, 1), (96, fun a b => .iadd, 1), (100, fun a b => .isub, 1), (104, fun a b => .imul, 1), (108, fun a b => .idiv, 1), (109, fun a b => .ldiv, 1), (112, fun a b => .irem, 1), (113, fun a b => .lrem, 1), (120, fun a b => .ishl, 1), (121, fun a b => .lshl, 1), (122, fun a b => .ishr, 1), (124, fun a b => .iushr, 1), (126, fun a b => .iand, 1), (128, fun a b => .ior, 1), (129, fun a b => .lor, 1), (130, fun a b => .ixor, 1), (132, fun a b => .iinc a (ClassFile.Reader.signed 8 b), 3), (133, fun a b => .i2l, 1), (145, fun a b => .i2b, 1), (146, fun a b => .i2c, 1), (148, fun a b => .lcmp, 1), (153, fun a b => .ifCond .eq (ClassFile.Reader.signed 16 (a * 256 + b)), 3), (154, fun a b => .ifCond .ne (ClassFile.Reader.signed 16 (a * 256 + b)), 3), (155, fun a b => .ifCond .lt (ClassFile.Reader.signed 16 (a * 256 + b)), 3), (156, fun a b => .ifCond .ge (ClassFile.Reader.signed 16 (a * 256 + b)), 3), (157, fun a b => .ifCond .gt (ClassFile.Reader.signed 16 (a * 256 + b)), 3), (158, fun a b => .ifCond .le (ClassFile.Reader.signed 16 (a * 256 + b)), 3), (159, fun a b => .if_icmp .eq (ClassFile.Reader.signed 16 (a * 256 + b)), 3), (160, fun a b => .if_icmp .ne (ClassFile.Reader.signed 16 (a * 256 + b)), 3), (161, fun a b => .if_icmp .lt (ClassFile.Reader.signed 16 (a * 256 + b)), 3), (162, fun a b => .if_icmp .ge (ClassFile.Reader.signed 16 (a * 256 + b)), 3), (163, fun a b => .if_icmp .gt (ClassFile.Reader.signed 16 (a * 256 + b)), 3), (164, fun a b => .if_icmp .le (ClassFile.Reader.signed 16 (a * 256 + b)), 3), (167, fun a b => .goto (ClassFile.Reader.signed 16 (a * 256 + b)), 3), (172, fun a b => .ireturn, 1), (173, fun a b => .lreturn, 1), (177, fun a b => .return_, 1), (178, fun a b => .getstatic (a * 256 + b), 3), (180, fun a b => .getfield (a * 256 + b), 3), (181, fun a b => .putfield (a * 256 + b), 3), (182, fun a b => .invokevirtual (a * 256 + b), 3), (183, fun a b => .invokespecial (a * 256 + b), 3), (184, fun a b => .invokestatic (a * 256 + b), 3), (187, fun a b => .new (a * 256 + b), 3), (189, fun a b => .anewarray (a * 256 + b), 3), (190, fun a b => .arraylength, 1), (191, fun a b => .athrow, 1)] := rfl
  rw [e]
  exact List.forall_mem_cons.mpr ⟨qx2, List.forall_mem_cons.mpr ⟨qx3, List.forall_mem_cons.mpr ⟨qx4, List.forall_mem_cons.mpr ⟨qx5, List.forall_mem_cons.mpr ⟨qx6, List.forall_mem_cons.mpr ⟨qx7, List.forall_mem_cons.mpr ⟨qx8, List.forall_mem_cons.mpr ⟨qx9, List.forall_mem_cons.mpr ⟨qx16, List.forall_mem_cons.mpr ⟨qx17, List.forall_mem_cons.mpr ⟨qx18, List.forall_mem_cons.mpr ⟨qx19, List.forall_mem_cons.mpr ⟨qx20, List.forall_mem_cons.mpr ⟨qx21, List.forall_mem_cons.mpr ⟨qx22, List.forall_mem_cons.mpr ⟨qx25, List.forall_mem_cons.mpr ⟨qx26, List.forall_mem_cons.mpr ⟨qx27, List.forall_mem_cons.mpr ⟨qx28, List.forall_mem_cons.mpr ⟨qx29, List.forall_mem_cons.mpr ⟨qx30, List.forall_mem_cons.mpr ⟨qx31, List.forall_mem_cons.mpr ⟨qx32, List.forall_mem_cons.mpr ⟨qx42, List.forall_mem_cons.mpr ⟨qx43, List.forall_mem_cons.mpr ⟨qx44, List.forall_mem_cons.mpr ⟨qx45, List.forall_mem_cons.mpr ⟨qx46, List.forall_mem_cons.mpr ⟨qx47, List.forall_mem_cons.mpr ⟨qx50, List.forall_mem_cons.mpr ⟨qx51, List.forall_mem_cons.mpr ⟨qx54, List.forall_mem_cons.mpr ⟨qx55, List.forall_mem_cons.mpr ⟨qx58, List.forall_mem_cons.mpr ⟨qx59, List.forall_mem_cons.mpr ⟨qx60, List.forall_mem_cons.mpr ⟨qx61, List.forall_mem_cons.mpr ⟨qx62, List.forall_mem_cons.mpr ⟨qx64, List.forall_mem_cons.mpr ⟨qx76, List.forall_mem_cons.mpr ⟨qx77, List.forall_mem_cons.mpr ⟨qx78, List.forall_mem_cons.mpr ⟨qx79, List.forall_mem_cons.mpr ⟨qx80, List.forall_mem_cons.mpr ⟨qx83, List.forall_mem_cons.mpr ⟨qx84, List.forall_mem_cons.mpr ⟨qx87, List.forall_mem_cons.mpr ⟨qx88, List.forall_mem_cons.mpr ⟨qx89, List.forall_mem_cons.mpr ⟨qx92, List.forall_mem_cons.mpr ⟨qx96, List.forall_mem_cons.mpr ⟨qx100, List.forall_mem_cons.mpr ⟨qx104, List.forall_mem_cons.mpr ⟨qx108, List.forall_mem_cons.mpr ⟨qx109, List.forall_mem_cons.mpr ⟨qx112, List.forall_mem_cons.mpr ⟨qx113, List.forall_mem_cons.mpr ⟨qx120, List.forall_mem_cons.mpr ⟨qx121, List.forall_mem_cons.mpr ⟨qx122, List.forall_mem_cons.mpr ⟨qx124, List.forall_mem_cons.mpr ⟨qx126, List.forall_mem_cons.mpr ⟨qx128, List.forall_mem_cons.mpr ⟨qx129, List.forall_mem_cons.mpr ⟨qx130, List.forall_mem_cons.mpr ⟨qx132, List.forall_mem_cons.mpr ⟨qx133, List.forall_mem_cons.mpr ⟨qx145, List.forall_mem_cons.mpr ⟨qx146, List.forall_mem_cons.mpr ⟨qx148, List.forall_mem_cons.mpr ⟨qx153, List.forall_mem_cons.mpr ⟨qx154, List.forall_mem_cons.mpr ⟨qx155, List.forall_mem_cons.mpr ⟨qx156, List.forall_mem_cons.mpr ⟨qx157, List.forall_mem_cons.mpr ⟨qx158, List.forall_mem_cons.mpr ⟨qx159, List.forall_mem_cons.mpr ⟨qx160, List.forall_mem_cons.mpr ⟨qx161, List.forall_mem_cons.mpr ⟨qx162, List.forall_mem_cons.mpr ⟨qx163, List.forall_mem_cons.mpr ⟨qx164, List.forall_mem_cons.mpr ⟨qx167, List.forall_mem_cons.mpr ⟨qx172, List.forall_mem_cons.mpr ⟨qx173, List.forall_mem_cons.mpr ⟨qx177, List.forall_mem_cons.mpr ⟨qx178, List.forall_mem_cons.mpr ⟨qx180, List.forall_mem_cons.mpr ⟨qx181, List.forall_mem_cons.mpr ⟨qx182, List.forall_mem_cons.mpr ⟨qx183, List.forall_mem_cons.mpr ⟨qx184, List.forall_mem_cons.mpr ⟨qx187, List.forall_mem_cons.mpr ⟨qx189, List.forall_mem_cons.mpr ⟨qx190, List.forall_mem_cons.mpr ⟨qx191, List.forall_mem_nil _⟩⟩⟩⟩⟩⟩⟩⟩⟩⟩⟩⟩⟩⟩⟩⟩⟩⟩⟩⟩⟩⟩⟩⟩⟩⟩⟩⟩⟩⟩⟩⟩⟩⟩⟩⟩⟩⟩⟩⟩⟩⟩⟩⟩⟩⟩⟩⟩⟩⟩⟩⟩⟩⟩⟩⟩⟩⟩⟩⟩⟩⟩⟩⟩⟩⟩⟩⟩⟩⟩⟩⟩⟩⟩⟩⟩⟩⟩⟩⟩⟩⟩⟩⟩⟩⟩⟩⟩⟩⟩⟩⟩⟩⟩⟩⟩
