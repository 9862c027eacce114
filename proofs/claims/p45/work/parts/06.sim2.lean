/-! the context of a method of the small machine, and the judgement at one of its states -/
def zws : List Cond := lw_tbl.filter goodWord
def zwsM (mi : zM) : List Cond := Cond.code mi.2.2.2.2.1 mi.1 mi.2.2.1 mi.2.2.2.1 :: zws
def zc (h : zH) : Nat := h.1.1 + h.2.2.2.2
def zt (h : zH) : Nat := h.1.2.2 + 6 * h.2.2.2.2
/-- a constant text: an object of String, its bytes -/
def zSf (sp : Nat → Nat) (A : Nat → Prop) (a : Nat) (bs : List Int32) (U : State) (H : Heap) : Prop := ∃ t : Nat, va_O "java/lang/String" (sp a) A U H ∧ va_OF "java/lang/String" "coder" "B" (.int 0) (sp a) A U H ∧ va_OF "java/lang/String" "value" "[B" (.ref t) (sp a) A U H ∧ va_T .byte t bs.length (fun j => .int (bs.getD j 0)) A U H
def zSg (B : Nat) (sp : Nat → Nat) (U : State) (H : Heap) : Prop :=
  (∀ (a : Nat) (bs : List Int32), zsc a = some bs → zSf sp (zAr B) a bs U H) ∧ va_Z "java/lang/String" "COMPACT_STRINGS" "Z" (.int 1) (zAr B) U H ∧ va_Zq "jdk/internal/util/Preconditions" "SIOOBE_FORMATTER" "Ljava/util/function/BiFunction;" (zAr B) U H ∧ va_Z "WhalePost" "CAN_CARRY" "[I" (.ref (sp 1000001)) (zAr B) U H ∧ va_T .int (sp 1000001) 4 (fun j => .int (zcc j)) (zAr B) U H
theorem zSg.kept {B : Nat} {sp : Nat → Nat} {U : State} {H H1 : Heap} (h : zSg B sp U H) (hq : ∀ a : Nat, a < H.size → ¬ zAr B a → H1[a]? = H[a]?) : zSg B sp U H1 :=
  ⟨fun a bs e => (by
    obtain ⟨t, q1, q2, q3, q4⟩ := h.1 a bs e
    exact ⟨t, q1.kept hq, q2.kept hq, q3.kept hq, q4.kept hq⟩), h.2.1.kept hq, h.2.2.1.kept hq, h.2.2.2.1.kept hq, h.2.2.2.2.kept hq⟩
theorem zSg.moved {B : Nat} {sp : Nat → Nat} {u U : State} {H : Heap} (hvm : u.vm.Alike U.vm) (h : zSg B sp u H) : zSg B sp U H :=
  ⟨fun a bs e => (by
    obtain ⟨t, q1, q2, q3, q4⟩ := h.1 a bs e
    exact ⟨t, va_O.moved hvm q1, va_OF.moved hvm q2, va_OF.moved hvm q3, va_T.moved hvm q4⟩), va_Z.moved hvm h.2.1, va_Zq.moved hvm h.2.2.1, va_Z.moved hvm h.2.2.2.1, va_T.moved hvm h.2.2.2.2⟩
def zCx (B : Nat) (sp : Nat → Nat) (cA : Nat → ClassId) (D : va_G) (U : State) : Prop :=
  va_K D vwCl (ztys cA) U ∧ (∀ q ∈ znm, va_Nw (.methodLinkNest (zRn q.1) q.2.1 q.2.2.1.2.2.2.2.1 q.2.2.2.1) U) ∧ (∀ q ∈ zsr, vk_R (zRn q.1) q.2.1 q.2.2.1 (sp q.2.2.2.1) U) ∧ (∀ k, 16 ≤ k → k ≤ 20 → va_AO (zRn (zrc k)) U) ∧ B ≤ U.heap.size ∧ zSg B sp U U.heap ∧ va_Nw (.fieldLinkNest "WhalePost$Sea" zgsk "WhalePost" "CAN_CARRY" "[I" "WhalePost") U
theorem zCx.warm {B : Nat} {sp : Nat → Nat} {cA : Nat → ClassId} {D : va_G} {s U : State} (h : zCx B sp cA D s) (hW : s.WarmedH U.vm) (hB : B ≤ U.heap.size) (hk : ∀ a : Nat, a < s.heap.size → ¬ zAr B a → U.heap[a]? = s.heap[a]?) : zCx B sp cA D U :=
  ⟨va_K.moved hW.alike h.1, fun q hq => va_Nw.warmM hW (h.2.1 q hq), fun q hq => vk_R.warm hW (h.2.2.1 q hq), fun k h1 h2 => va_AO.moved hW.alike (h.2.2.2.1 k h1 h2), hB, zSg.moved hW.alike (h.2.2.2.2.2.1.kept hk), va_Nw.warmF hW h.2.2.2.2.2.2⟩
def zX (p : Program) (s : State) (m : MethodId) (args : Array Value) (meth : Method) (c : Code) (B : Nat) (sp : Nat → Nat) (cA : Nat → ClassId) (D : va_G) (mi : zM) : Prop :=
  p.tables.exec = Jvm.exec ∧ c.code = mi.1 ∧ c.maxLocals = mi.2.2.1 ∧ s.vm.findClass (zRn mi.2.1) = some m.cls ∧ (∀ w ∈ zws, w.before args s = true) ∧ (mi.2.2.2.2.2 = true → meth.name = "<init>") ∧ zCx B sp cA D s
def zK (p : Program) (l : Launch) (e : Env) (R : Room) (s : State) (m : MethodId) (args : Array Value) (below : List Frame) (meth : Method) (c : Code) (Q : State → Prop) (B : Nat) (sp : Nat → Nat) (cA : Nat → ClassId) (D : va_G) (mi : zM) (c0 s0 : Nat) (g : zC) : Prop :=
  ∀ (H : Heap) (locs : List Loc) (lA : Array Slot) (cells slots : Nat), zRel B sp cA D g.2.2.2 H → va_S (zAr B) s.heap H locs → lv_has lA mi.2.2.1 (zlv B sp g.2.1) → c0 + cells = zc g.2.2.2 → s0 + slots = zt g.2.2.2 →
    W p l e R s m args below meth c H locs cells slots Q (F0 m g.1 lA (g.2.2.1.map (zcv B sp)))
section ZS
variable {p : Program} {l : Launch} {e : Env} {R : Room} {s : State} {m : MethodId} {args : Array Value} {below : List Frame} {meth : Method} {c : Code} {Q : State → Prop} {B : Nat} {sp : Nat → Nat} {cA : Nat → ClassId} {D : va_G} {mi : zM} {c0 s0 : Nat}
variable {pc len : Nat} {ls : zL} {st : List zV} {h : zH}
theorem zs_iconst {n : Int} (cx : zX p s m args meth c B sp cA D mi) (hd : decode mi.1 pc = .ok (.iconst n, 1)) (k : zK p l e R s m args below meth c Q B sp cA D mi c0 s0 (pc + 1, ls, .inl (Int32.ofInt n) :: st, h)) : zK p l e R s m args below meth c Q B sp cA D mi c0 s0 (pc, ls, st, h) :=
  fun H locs lA cells slots hR hS hl h1 h2 => lv_iconst cx.1 cx.2.1 hd rfl (k H locs lA cells slots hR hS hl h1 h2)
theorem zs_bipush {n : Int} (cx : zX p s m args meth c B sp cA D mi) (hd : decode mi.1 pc = .ok (.bipush n, 2)) (k : zK p l e R s m args below meth c Q B sp cA D mi c0 s0 (pc + 2, ls, .inl (Int8.ofInt n).toInt32 :: st, h)) : zK p l e R s m args below meth c Q B sp cA D mi c0 s0 (pc, ls, st, h) :=
  fun H locs lA cells slots hR hS hl h1 h2 => lv_bipush cx.1 cx.2.1 hd rfl (k H locs lA cells slots hR hS hl h1 h2)
theorem zs_sipush {n : Int} (cx : zX p s m args meth c B sp cA D mi) (hd : decode mi.1 pc = .ok (.sipush n, 3)) (k : zK p l e R s m args below meth c Q B sp cA D mi c0 s0 (pc + 3, ls, .inl (Int16.ofInt n).toInt32 :: st, h)) : zK p l e R s m args below meth c Q B sp cA D mi c0 s0 (pc, ls, st, h) :=
  fun H locs lA cells slots hR hS hl h1 h2 => lv_sipush cx.1 cx.2.1 hd rfl (k H locs lA cells slots hR hS hl h1 h2)
theorem zs_lconst {n : Fin 2} (cx : zX p s m args meth c B sp cA D mi) (hd : decode mi.1 pc = .ok (.lconst n, 1)) (k : zK p l e R s m args below meth c Q B sp cA D mi c0 s0 (pc + 1, ls, .inr (.inl (Int64.ofNat (n : Nat))) :: st, h)) : zK p l e R s m args below meth c Q B sp cA D mi c0 s0 (pc, ls, st, h) :=
  fun H locs lA cells slots hR hS hl h1 h2 => lv_lconst cx.1 cx.2.1 hd rfl (k H locs lA cells slots hR hS hl h1 h2)
/-- loads -/
theorem zs_load {i : Instr} {so j : Nat} {g : zC} (cx : zX p s m args meth c B sp cA D mi) (hd : decode mi.1 pc = .ok (i, len)) (hi : (i = .iload j ∧ len = 2 ∧ so = 0) ∨ (∃ f : Fin 4, i = .iload_n f ∧ (f : Nat) = j ∧ len = 1 ∧ so = 0) ∨ (i = .lload j ∧ len = 2 ∧ so = 1) ∨ (∃ f : Fin 4, i = .lload_n f ∧ (f : Nat) = j ∧ len = 1 ∧ so = 1) ∨ (i = .aload j ∧ len = 2 ∧ so = 2) ∨ (∃ f : Fin 4, i = .aload_n f ∧ (f : Nat) = j ∧ len = 1 ∧ so = 2))
    (hz : zload so j len pc ls st h = some (.inl g)) (k : zK p l e R s m args below meth c Q B sp cA D mi c0 s0 g) : zK p l e R s m args below meth c Q B sp cA D mi c0 s0 (pc, ls, st, h) := by
  intro H locs lA cells slots hR hS hl h1 h2
  unfold zload at hz
  split at hz
  · next x hg =>
    split at hz
    · next hso =>
      subst hso
      cases hz
      have k' := k H locs lA cells slots hR hS hl h1 h2
      have ha := zget_at hl hg
      rcases hi with ⟨rfl, rfl, -⟩ | ⟨f, rfl, rfl, rfl, -⟩ | ⟨-, -, q⟩ | ⟨f, -, -, -, q⟩ | ⟨-, -, q⟩ | ⟨f, -, -, -, q⟩
      · exact lv_iload cx.1 cx.2.1 hd ha k'
      · exact lv_iload_n cx.1 cx.2.1 hd rfl ha k'
      all_goals cases q
    · cases hz
  · next x hg =>
    split at hz
    · next hso =>
      subst hso
      cases hz
      have k' := k H locs lA cells slots hR hS hl h1 h2
      have ha := zget_at hl hg
      rcases hi with ⟨-, -, q⟩ | ⟨f, -, -, -, q⟩ | ⟨rfl, rfl, -⟩ | ⟨f, rfl, rfl, rfl, -⟩ | ⟨-, -, q⟩ | ⟨f, -, -, -, q⟩
      · cases q
      · cases q
      · exact lv_lload cx.1 cx.2.1 hd ha k'
      · exact lv_lload_n cx.1 cx.2.1 hd rfl ha k'
      all_goals cases q
    · cases hz
  · next x hg =>
    split at hz
    · next hso =>
      subst hso
      cases hz
      have k' := k H locs lA cells slots hR hS hl h1 h2
      have ha := zget_at hl hg
      rcases hi with ⟨-, -, q⟩ | ⟨f, -, -, -, q⟩ | ⟨-, -, q⟩ | ⟨f, -, -, -, q⟩ | ⟨rfl, rfl, -⟩ | ⟨f, rfl, rfl, rfl, -⟩
      · cases q
      · cases q
      · cases q
      · cases q
      · exact lv_aload cx.1 cx.2.1 hd ha k'
      · exact lv_aload_n cx.1 cx.2.1 hd rfl ha k'
    · cases hz
  · cases hz
/-- stores -/
theorem zs_store {i : Instr} {so j : Nat} {g : zC} (cx : zX p s m args meth c B sp cA D mi) (hd : decode mi.1 pc = .ok (i, len)) (hi : (i = .istore j ∧ len = 2 ∧ so = 0) ∨ (∃ f : Fin 4, i = .istore_n f ∧ (f : Nat) = j ∧ len = 1 ∧ so = 0) ∨ (i = .lstore j ∧ len = 2 ∧ so = 1) ∨ (∃ f : Fin 4, i = .lstore_n f ∧ (f : Nat) = j ∧ len = 1 ∧ so = 1) ∨ (i = .astore j ∧ len = 2 ∧ so = 2) ∨ (∃ f : Fin 4, i = .astore_n f ∧ (f : Nat) = j ∧ len = 1 ∧ so = 2))
    (hz : zstore mi so j len pc ls st h = some (.inl g)) (k : zK p l e R s m args below meth c Q B sp cA D mi c0 s0 g) : zK p l e R s m args below meth c Q B sp cA D mi c0 s0 (pc, ls, st, h) := by
  intro H locs lA cells slots hR hS hl h1 h2
  unfold zstore at hz
  split at hz
  · next x st' =>
    split at hz
    · next hso =>
      obtain ⟨rfl, hj⟩ := hso
      cases hz
      have k' := fun lA' hl' => k H locs lA' cells slots hR hS hl' h1 h2
      rcases hi with ⟨rfl, rfl, -⟩ | ⟨f, rfl, rfl, rfl, -⟩ | ⟨-, -, q⟩ | ⟨f, -, -, -, q⟩ | ⟨-, -, q⟩ | ⟨f, -, -, -, q⟩
      · exact lv_istore cx.1 cx.2.1 hd hl hj (zset1_lv (v := .inl x)) k'
      · exact lv_istore_n cx.1 cx.2.1 hd rfl hl hj (zset1_lv (v := .inl x)) k'
      all_goals cases q
    · cases hz
  · next x st' =>
    split at hz
    · next hso =>
      obtain ⟨rfl, hj⟩ := hso
      cases hz
      have k' := fun lA' hl' => k H locs lA' cells slots hR hS hl' h1 h2
      rcases hi with ⟨-, -, q⟩ | ⟨f, -, -, -, q⟩ | ⟨rfl, rfl, -⟩ | ⟨f, rfl, rfl, rfl, -⟩ | ⟨-, -, q⟩ | ⟨f, -, -, -, q⟩
      · cases q
      · cases q
      · exact lv_lstore cx.1 cx.2.1 hd hl hj (zset2_lv (v := .inr (.inl x))) k'
      · exact lv_lstore_n cx.1 cx.2.1 hd rfl hl hj (zset2_lv (v := .inr (.inl x))) k'
      all_goals cases q
    · cases hz
  · next x st' =>
    split at hz
    · next hso =>
      obtain ⟨rfl, hj⟩ := hso
      cases hz
      have k' := fun lA' hl' => k H locs lA' cells slots hR hS hl' h1 h2
      rcases hi with ⟨-, -, q⟩ | ⟨f, -, -, -, q⟩ | ⟨-, -, q⟩ | ⟨f, -, -, -, q⟩ | ⟨rfl, rfl, -⟩ | ⟨f, rfl, rfl, rfl, -⟩
      · cases q
      · cases q
      · cases q
      · cases q
      · exact lv_astore cx.1 cx.2.1 hd hl hj (zset1_lv (v := .inr (.inr (some x)))) k'
      · exact lv_astore_n cx.1 cx.2.1 hd rfl hl hj (zset1_lv (v := .inr (.inr (some x)))) k'
    · cases hz
  · cases hz
theorem zs_iinc {j : Nat} {n : Int} {x : Int32} (cx : zX p s m args meth c B sp cA D mi) (hd : decode mi.1 pc = .ok (.iinc j n, 3)) (hg : zget ls j = some (.inl x)) (hj : j < mi.2.2.1) (k : zK p l e R s m args below meth c Q B sp cA D mi c0 s0 (pc + 3, zset1 ls j (.inl (x + Int32.ofInt n)), st, h)) : zK p l e R s m args below meth c Q B sp cA D mi c0 s0 (pc, ls, st, h) := by
  intro H locs lA cells slots hR hS hl h1 h2
  obtain ⟨q, hq⟩ := zget_place (B := B) (sp := sp) hg
  exact lv_iinc cx.1 cx.2.1 hd hl hq rfl hj (zset1_lv (v := .inl (x + Int32.ofInt n))) (fun lA' hl' => k H locs lA' cells slots hR hS hl' h1 h2)
/-- two ints to one -/
theorem zs_bin {i : Instr} {x y v : Int32} (cx : zX p s m args meth c B sp cA D mi) (hd : decode mi.1 pc = .ok (i, 1)) (hz : zbin i x y = some v) (k : zK p l e R s m args below meth c Q B sp cA D mi c0 s0 (pc + 1, ls, .inl v :: st, h)) : zK p l e R s m args below meth c Q B sp cA D mi c0 s0 (pc, ls, .inl y :: .inl x :: st, h) := by
  intro H locs lA cells slots hR hS hl h1 h2
  have k' := k H locs lA cells slots hR hS hl h1 h2
  unfold zbin at hz
  split at hz
  · cases hz; exact lv_iadd cx.1 cx.2.1 hd k'
  · cases hz; exact lv_isub cx.1 cx.2.1 hd k'
  · cases hz; exact lv_imul cx.1 cx.2.1 hd k'
  · cases hz; exact lv_iand cx.1 cx.2.1 hd k'
  · cases hz; exact lv_ior cx.1 cx.2.1 hd k'
  · cases hz; exact lv_ixor cx.1 cx.2.1 hd k'
  · cases hz; exact lv_ishl cx.1 cx.2.1 hd k'
  · cases hz; exact lv_ishr cx.1 cx.2.1 hd k'
  · cases hz; exact lv_iushr cx.1 cx.2.1 hd rfl k'
  · split at hz
    · cases hz
    · next hy => cases hz; exact lv_idiv cx.1 cx.2.1 hd hy k'
  · split at hz
    · cases hz
    · next hy => cases hz; exact lv_irem cx.1 cx.2.1 hd hy k'
  · cases hz
theorem zs_un {i : Instr} {x : Int32} {v : zV} (cx : zX p s m args meth c B sp cA D mi) (hd : decode mi.1 pc = .ok (i, 1)) (hz : zun i x = some v) (k : zK p l e R s m args below meth c Q B sp cA D mi c0 s0 (pc + 1, ls, v :: st, h)) : zK p l e R s m args below meth c Q B sp cA D mi c0 s0 (pc, ls, .inl x :: st, h) := by
  intro H locs lA cells slots hR hS hl h1 h2
  have k' := k H locs lA cells slots hR hS hl h1 h2
  unfold zun at hz
  split at hz
  · cases hz; exact lv_ineg cx.1 cx.2.1 hd k'
  · cases hz; exact lv_i2b cx.1 cx.2.1 hd rfl k'
  · cases hz; exact lv_i2c cx.1 cx.2.1 hd rfl k'
  · cases hz; exact lv_i2l cx.1 cx.2.1 hd rfl k'
  · cases hz
theorem zs_lbin {i : Instr} {x y : Int64} {v : zV} (cx : zX p s m args meth c B sp cA D mi) (hd : decode mi.1 pc = .ok (i, 1)) (hz : zlbin i x y = some v) (k : zK p l e R s m args below meth c Q B sp cA D mi c0 s0 (pc + 1, ls, v :: st, h)) : zK p l e R s m args below meth c Q B sp cA D mi c0 s0 (pc, ls, .inr (.inl y) :: .inr (.inl x) :: st, h) := by
  intro H locs lA cells slots hR hS hl h1 h2
  have k' := k H locs lA cells slots hR hS hl h1 h2
  unfold zlbin at hz
  split at hz
  · cases hz; exact lv_lor cx.1 cx.2.1 hd k'
  · cases hz; exact W.lcmp cx.1 cx.2.1 hd k'
  · split at hz
    · cases hz
    · next hy => cases hz; exact lv_ldiv cx.1 cx.2.1 hd hy k'
  · split at hz
    · cases hz
    · next hy => cases hz; exact lv_lrem cx.1 cx.2.1 hd hy k'
  · cases hz
theorem zs_lshl {x : Int64} {y : Int32} (cx : zX p s m args meth c B sp cA D mi) (hd : decode mi.1 pc = .ok (.lshl, 1)) (k : zK p l e R s m args below meth c Q B sp cA D mi c0 s0 (pc + 1, ls, .inr (.inl (x <<< (y.toInt64 &&& 63))) :: st, h)) : zK p l e R s m args below meth c Q B sp cA D mi c0 s0 (pc, ls, .inl y :: .inr (.inl x) :: st, h) :=
  fun H locs lA cells slots hR hS hl h1 h2 => lv_lshl cx.1 cx.2.1 hd rfl (k H locs lA cells slots hR hS hl h1 h2)
/-- jumps -/
theorem zjump_at {off : Int} {g : zC} (hz : zjump pc off ls st h = some (.inl g)) : (pc : Int) + off = ((g.1 : Nat) : Int) ∧ g = (g.1, ls, st, h) := by
  unfold zjump at hz
  split at hz
  · next h0 =>
    cases hz
    exact ⟨(Int.toNat_of_nonneg h0).symm, rfl⟩
  · cases hz
theorem zs_goto {off : Int} {g : zC} (cx : zX p s m args meth c B sp cA D mi) (hd : decode mi.1 pc = .ok (.goto off, 3)) (hz : zjump pc off ls st h = some (.inl g)) (k : zK p l e R s m args below meth c Q B sp cA D mi c0 s0 g) : zK p l e R s m args below meth c Q B sp cA D mi c0 s0 (pc, ls, st, h) := by
  obtain ⟨e1, e2⟩ := zjump_at hz
  rw [e2] at k
  exact fun H locs lA cells slots hR hS hl h1 h2 => lv_goto cx.1 cx.2.1 hd e1 (k H locs lA cells slots hR hS hl h1 h2)
theorem zs_if {cd : ClassFile.Cond} {off : Int} {x : Int32} {g : zC} (cx : zX p s m args meth c B sp cA D mi) (hd : decode mi.1 pc = .ok (.ifCond cd off, 3)) (hz : zbr (zcond cd x 0) pc 3 off ls st h = some (.inl g)) (k : zK p l e R s m args below meth c Q B sp cA D mi c0 s0 g) : zK p l e R s m args below meth c Q B sp cA D mi c0 s0 (pc, ls, .inl x :: st, h) := by
  intro H locs lA cells slots hR hS hl h1 h2
  unfold zbr at hz
  split at hz
  · next h0 =>
    have e1 : (pc : Int) + off = (((pc : Int) + off).toNat : Int) := (Int.toNat_of_nonneg h0).symm
    by_cases hc : zcond cd x 0 = true
    · rw [if_pos hc] at hz
      cases hz
      have k' := k H locs lA cells slots hR hS hl h1 h2
      cases cd <;> simp only [zcond, decide_eq_true_eq] at hc
      · exact lv_if_eq cx.1 cx.2.1 hd e1 (fun _ => k') (fun q => absurd hc q)
      · exact lv_if_ne cx.1 cx.2.1 hd e1 (fun _ => k') (fun q => absurd q hc)
      · exact lv_if_lt cx.1 cx.2.1 hd e1 (fun _ => k') (fun q => absurd hc q)
      · exact lv_if_ge cx.1 cx.2.1 hd e1 (fun _ => k') (fun q => absurd hc q)
      · exact lv_if_gt cx.1 cx.2.1 hd e1 (fun _ => k') (fun q => absurd hc q)
      · exact lv_if_le cx.1 cx.2.1 hd e1 (fun _ => k') (fun q => absurd hc q)
    · rw [if_neg hc] at hz
      cases hz
      have k' := k H locs lA cells slots hR hS hl h1 h2
      cases cd <;> simp only [zcond, decide_eq_true_eq] at hc
      · exact lv_if_eq cx.1 cx.2.1 hd e1 (fun q => absurd q hc) (fun _ => k')
      · exact lv_if_ne cx.1 cx.2.1 hd e1 (fun q => absurd q hc) (fun _ => k')
      · exact lv_if_lt cx.1 cx.2.1 hd e1 (fun q => absurd q hc) (fun _ => k')
      · exact lv_if_ge cx.1 cx.2.1 hd e1 (fun q => absurd q hc) (fun _ => k')
      · exact lv_if_gt cx.1 cx.2.1 hd e1 (fun q => absurd q hc) (fun _ => k')
      · exact lv_if_le cx.1 cx.2.1 hd e1 (fun q => absurd q hc) (fun _ => k')
  · cases hz
theorem zs_icmp {cd : ClassFile.Cond} {off : Int} {x y : Int32} {g : zC} (cx : zX p s m args meth c B sp cA D mi) (hd : decode mi.1 pc = .ok (.if_icmp cd off, 3)) (hz : zbr (zcond cd x y) pc 3 off ls st h = some (.inl g)) (k : zK p l e R s m args below meth c Q B sp cA D mi c0 s0 g) : zK p l e R s m args below meth c Q B sp cA D mi c0 s0 (pc, ls, .inl y :: .inl x :: st, h) := by
  intro H locs lA cells slots hR hS hl h1 h2
  unfold zbr at hz
  split at hz
  · next h0 =>
    have e1 : (pc : Int) + off = (((pc : Int) + off).toNat : Int) := (Int.toNat_of_nonneg h0).symm
    by_cases hc : zcond cd x y = true
    · rw [if_pos hc] at hz
      cases hz
      have k' := k H locs lA cells slots hR hS hl h1 h2
      cases cd <;> simp only [zcond, decide_eq_true_eq] at hc
      · exact lv_icmp_eq cx.1 cx.2.1 hd e1 (fun _ => k') (fun q => absurd hc q)
      · exact lv_icmp_ne cx.1 cx.2.1 hd e1 (fun _ => k') (fun q => absurd q hc)
      · exact lv_icmp_lt cx.1 cx.2.1 hd e1 (fun _ => k') (fun q => absurd hc q)
      · exact lv_icmp_ge cx.1 cx.2.1 hd e1 (fun _ => k') (fun q => absurd hc q)
      · exact lv_icmp_gt cx.1 cx.2.1 hd e1 (fun _ => k') (fun q => absurd hc q)
      · exact lv_icmp_le cx.1 cx.2.1 hd e1 (fun _ => k') (fun q => absurd hc q)
    · rw [if_neg hc] at hz
      cases hz
      have k' := k H locs lA cells slots hR hS hl h1 h2
      cases cd <;> simp only [zcond, decide_eq_true_eq] at hc
      · exact lv_icmp_eq cx.1 cx.2.1 hd e1 (fun q => absurd q hc) (fun _ => k')
      · exact lv_icmp_ne cx.1 cx.2.1 hd e1 (fun q => absurd q hc) (fun _ => k')
      · exact lv_icmp_lt cx.1 cx.2.1 hd e1 (fun q => absurd q hc) (fun _ => k')
      · exact lv_icmp_ge cx.1 cx.2.1 hd e1 (fun q => absurd q hc) (fun _ => k')
      · exact lv_icmp_gt cx.1 cx.2.1 hd e1 (fun q => absurd q hc) (fun _ => k')
      · exact lv_icmp_le cx.1 cx.2.1 hd e1 (fun q => absurd q hc) (fun _ => k')
  · cases hz
theorem zs_switch {d lo hi : Int} {offs : Array Int} {x : Int32} {g : zC} (cx : zX p s m args meth c B sp cA D mi) (hd : decode mi.1 pc = .ok (.tableswitch d lo hi offs, len)) (hz : (if x.toInt < lo ∨ hi < x.toInt then zjump pc d ls st h else (match offs[(x.toInt - lo).toNat]? with
      | some off => zjump pc off ls st h
      | none => none)) = some (.inl g)) (k : zK p l e R s m args below meth c Q B sp cA D mi c0 s0 g) : zK p l e R s m args below meth c Q B sp cA D mi c0 s0 (pc, ls, .inl x :: st, h) := by
  intro H locs lA cells slots hR hS hl h1 h2
  split at hz
  · next ho =>
    obtain ⟨e1, e2⟩ := zjump_at hz
    rw [e2] at k
    exact lv_tableOut cx.1 cx.2.1 hd ho e1 (k H locs lA cells slots hR hS hl h1 h2)
  · next ho =>
    split at hz
    · next off hoff =>
      obtain ⟨e1, e2⟩ := zjump_at hz
      rw [e2] at k
      exact lv_tableIn cx.1 cx.2.1 hd (fun q => ho (Or.inl q)) (fun q => ho (Or.inr q)) hoff e1 (k H locs lA cells slots hR hS hl h1 h2)
    · cases hz
theorem zs_dup {v : zV} (cx : zX p s m args meth c B sp cA D mi) (hd : decode mi.1 pc = .ok (.dup, 1)) (hv : zcat v = 1) (k : zK p l e R s m args below meth c Q B sp cA D mi c0 s0 (pc + 1, ls, v :: v :: st, h)) : zK p l e R s m args below meth c Q B sp cA D mi c0 s0 (pc, ls, v :: st, h) :=
  fun H locs lA cells slots hR hS hl h1 h2 => lv_dup cx.1 cx.2.1 hd (by rw [zcat_cv]; exact hv) (k H locs lA cells slots hR hS hl h1 h2)
theorem zs_dup2 {v w : zV} (cx : zX p s m args meth c B sp cA D mi) (hd : decode mi.1 pc = .ok (.dup2, 1)) (hv : zcat v = 1) (hw : zcat w = 1) (k : zK p l e R s m args below meth c Q B sp cA D mi c0 s0 (pc + 1, ls, v :: w :: v :: w :: st, h)) : zK p l e R s m args below meth c Q B sp cA D mi c0 s0 (pc, ls, v :: w :: st, h) :=
  fun H locs lA cells slots hR hS hl h1 h2 => lv_dup2_11 cx.1 cx.2.1 hd (by rw [zcat_cv]; exact hv) (by rw [zcat_cv]; exact hw) (k H locs lA cells slots hR hS hl h1 h2)
theorem zs_pop {v : zV} (cx : zX p s m args meth c B sp cA D mi) (hd : decode mi.1 pc = .ok (.pop, 1)) (hv : zcat v = 1) (k : zK p l e R s m args below meth c Q B sp cA D mi c0 s0 (pc + 1, ls, st, h)) : zK p l e R s m args below meth c Q B sp cA D mi c0 s0 (pc, ls, v :: st, h) :=
  fun H locs lA cells slots hR hS hl h1 h2 => lv_pop cx.1 cx.2.1 hd (by rw [zcat_cv]; exact hv) (k H locs lA cells slots hR hS hl h1 h2)
theorem zs_pop2 {v : zV} (cx : zX p s m args meth c B sp cA D mi) (hd : decode mi.1 pc = .ok (.pop2, 1)) (hv : zcat v = 2) (k : zK p l e R s m args below meth c Q B sp cA D mi c0 s0 (pc + 1, ls, st, h)) : zK p l e R s m args below meth c Q B sp cA D mi c0 s0 (pc, ls, v :: st, h) :=
  fun H locs lA cells slots hR hS hl h1 h2 => lv_pop2_2 cx.1 cx.2.1 hd (by rw [zcat_cv]; exact hv) (k H locs lA cells slots hR hS hl h1 h2)
end ZS
