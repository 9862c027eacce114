/-! THE SMALL MACHINE: values, heaps, one step, runs. Its tables (zfld, zcst, zmth, zcls, zsta, znf) stand ahead. -/
/-- the heap: kinds and lengths of the cells; ints, longs, references by cell and place; how often led has thrown -/
abbrev zH : Type := (Nat × (Nat → Nat × Nat) × Nat) × (Nat → Nat → Int32) × (Nat → Nat → Int64) × (Nat → Nat → Option Nat) × Nat
abbrev zL : Type := List (Nat × zV)
/-- the kind and length of a cell -/
def zsh (h : zH) (a : Nat) : Option (Nat × Nat) := if a < h.1.1 then some (h.1.2.1 a) else none
def zup {α : Type} (f : Nat → Nat → α) (a k : Nat) (v : α) : Nat → Nat → α := fun b j => if b = a then (if j = k then v else f b j) else f b j
def zrow {α : Type} (f : Nat → Nat → α) (a : Nat) (g : Nat → α) : Nat → Nat → α := fun b j => if b = a then g j else f b j
def zsI (h : zH) (a k : Nat) (v : Int32) : zH := (h.1, zup h.2.1 a k v, h.2.2.1, h.2.2.2.1, h.2.2.2.2)
def zsL (h : zH) (a k : Nat) (v : Int64) : zH := (h.1, h.2.1, zup h.2.2.1 a k v, h.2.2.2.1, h.2.2.2.2)
def zsR (h : zH) (a k : Nat) (v : Option Nat) : zH := (h.1, h.2.1, h.2.2.1, zup h.2.2.2.1 a k v, h.2.2.2.2)
def zsRow (h : zH) (a : Nat) (g : Nat → Int32) : zH := (h.1, zrow h.2.1 a g, h.2.2.1, h.2.2.2.1, h.2.2.2.2)
/-- a new cell: all zero, all null -/
def znew (h : zH) (kind len : Nat) : zH := ((h.1.1 + 1, (fun b => if b = h.1.1 then (kind, len) else h.1.2.1 b), h.1.2.2 + len), zrow h.2.1 h.1.1 (fun _ => 0), zrow h.2.2.1 h.1.1 (fun _ => 0), zrow h.2.2.2.1 h.1.1 (fun _ => none), h.2.2.2.2)
def zthr (h : zH) : zH := (h.1, h.2.1, h.2.2.1, h.2.2.2.1, h.2.2.2.2 + 1)
def zcat (v : zV) : Nat := match v with
  | .inr (.inl _) => 2
  | _ => 1
def zget (ls : zL) (i : Nat) : Option zV := match ls with
  | [] => none
  | q :: t => if q.1 = i then some q.2 else zget t i
def zset1 (ls : zL) (i : Nat) (v : zV) : zL := (i, v) :: ls.filter (fun q => !(q.1 == i) && !(q.1 + 1 == i && zcat q.2 == 2))
def zset2 (ls : zL) (i : Nat) (v : zV) : zL := (i, v) :: ls.filter (fun q => !(q.1 == i) && (!(q.1 == i + 1) && !(q.1 + 1 == i && zcat q.2 == 2)))
def zargs : Nat → List zV → zL
  | _, [] => []
  | i, v :: vs => (i, v) :: zargs (if zcat v = 2 then i + 2 else i + 1) vs
def zwd (vs : List zV) : Nat := (vs.map zcat).sum
def zcond (c : ClassFile.Cond) (x y : Int32) : Bool := match c with
  | .eq => decide (x = y)
  | .ne => decide (¬ x = y)
  | .lt => decide (x < y)
  | .ge => decide (y ≤ x)
  | .gt => decide (y < x)
  | .le => decide (x ≤ y)
abbrev zC : Type := Nat × zL × List zV × zH
abbrev zR : Type := Option zV × zH
/-- on by len, with this stack -/
abbrev zgo (pc : Nat) (ls : zL) (st : List zV) (h : zH) : Option (zC ⊕ zR) := some (.inl (pc, ls, st, h))
def zjump (pc : Nat) (off : Int) (ls : zL) (st : List zV) (h : zH) : Option (zC ⊕ zR) := if 0 ≤ (pc : Int) + off then zgo ((pc : Int) + off).toNat ls st h else none
/-- a branch: to pc + off, or on -/
def zbr (b : Bool) (pc len : Nat) (off : Int) (ls : zL) (st : List zV) (h : zH) : Option (zC ⊕ zR) := if 0 ≤ (pc : Int) + off then (if b then zgo ((pc : Int) + off).toNat ls st h else zgo (pc + len) ls st h) else none
/-- the place in an array of n -/
def zin (i : Int32) (n : Nat) : Bool := decide (¬ (i < 0 ∨ n ≤ i.toNatClampNeg))
/-- what whales can carry: the class's own row -/
def zcc (k : Nat) : Int32 := ([3, 9, 99, 9] : List Int32).getD k 0
def zld (scr : Option (Nat × (Nat → Int32))) (h : zH) (kind a : Nat) (i : Int32) : Option Int32 := match zsh h a with
  | some (k, n) => if k = kind then (if zin i n then some (h.2.1 a i.toNatClampNeg) else none) else none
  | none => if kind = 14 ∧ a = 1000000 then (match scr with
    | some (n, xs) => if zin i n then some (xs i.toNatClampNeg) else none
    | none => none) else (if kind = 14 ∧ a = 1000001 then (if zin i 4 then some (zcc i.toNatClampNeg) else none) else none)
def zst (h : zH) (kind a : Nat) (i : Int32) (v : Int32) : Option zH := match zsh h a with
  | some (k, n) => if k = kind then (if zin i n then some (zsI h a i.toNatClampNeg v) else none) else none
  | none => none
def zlen (scr : Option (Nat × (Nat → Int32))) (h : zH) (a : Nat) : Option Int32 := match zsh h a with
  | some (k, n) => if 13 ≤ k then some (Int32.ofNat n) else none
  | none => if a = 1000000 then scr.map (fun q => Int32.ofNat q.1) else none
def zfv (h : zH) (ci a f : Nat) : zV := if (zft ci).getD f 0 = 3 then .inr (.inr (h.2.2.2.1 a f)) else .inl (h.2.1 a f)
/-- a field's store: an int, a boolean (0, 1), a reference -/
def zput (h : zH) (ci a f : Nat) (v : zV) : Option zH := match v with
  | .inl x => if (zft ci).getD f 9 = 0 ∨ ((zft ci).getD f 9 = 1 ∧ (x = 0 ∨ x = 1)) then some (zsI h a f x) else none
  | .inr (.inr r) => if (zft ci).getD f 9 = 3 then some (zsR h a f r) else none
  | _ => none
def zbin (i : Instr) (x y : Int32) : Option Int32 := match i with
  | .iadd => some (x + y)
  | .isub => some (x - y)
  | .imul => some (x * y)
  | .iand => some (x &&& y)
  | .ior => some (x ||| y)
  | .ixor => some (x ^^^ y)
  | .ishl => some (x <<< (y &&& 31))
  | .ishr => some (x >>> (y &&& 31))
  | .iushr => some (x.toUInt32 >>> (y.toUInt32 &&& Int32.toUInt32 31)).toInt32
  | .idiv => if y = 0 then none else some (x / y)
  | .irem => if y = 0 then none else some (x - x / y * y)
  | _ => none
def zun (i : Instr) (x : Int32) : Option zV := match i with
  | .ineg => some (.inl (-x))
  | .i2b => some (.inl x.toInt8.toInt32)
  | .i2c => some (.inl (x.toUInt32 % 65536).toInt32)
  | .i2l => some (.inr (.inl x.toInt64))
  | _ => none
def zlbin (i : Instr) (x y : Int64) : Option zV := match i with
  | .lor => some (.inr (.inl (x ||| y)))
  | .lcmp => some (.inl (lg_cmp x y))
  | .ldiv => if y = 0 then none else some (.inr (.inl (x / y)))
  | .lrem => if y = 0 then none else some (.inr (.inl (x - x / y * y)))
  | _ => none
def zldv (m : zM) (ca k len pc : Nat) (ls : zL) (st : List zV) (h : zH) : Option (zC ⊕ zR) := match zcst m.2.1 k with
  | some v => if zcat v = ca then zgo (pc + len) ls (v :: st) h else none
  | none => none
/-- load, of a sort: 0 int, 1 long, 2 reference -/
def zload (so i len pc : Nat) (ls : zL) (st : List zV) (h : zH) : Option (zC ⊕ zR) := match zget ls i with
  | some (.inl x) => if so = 0 then zgo (pc + len) ls (.inl x :: st) h else none
  | some (.inr (.inl x)) => if so = 1 then zgo (pc + len) ls (.inr (.inl x) :: st) h else none
  | some (.inr (.inr (some a))) => if so = 2 then zgo (pc + len) ls (.inr (.inr (some a)) :: st) h else none
  | _ => none
def zstore (m : zM) (so i len pc : Nat) (ls : zL) (st : List zV) (h : zH) : Option (zC ⊕ zR) := match st with
  | .inl x :: st => if so = 0 ∧ i < m.2.2.1 then zgo (pc + len) (zset1 ls i (.inl x)) st h else none
  | .inr (.inl x) :: st => if so = 1 ∧ i + 1 < m.2.2.1 then zgo (pc + len) (zset2 ls i (.inr (.inl x))) st h else none
  | .inr (.inr (some a)) :: st => if so = 2 ∧ i < m.2.2.1 then zgo (pc + len) (zset1 ls i (.inr (.inr (some a)))) st h else none
  | _ => none
/-- a call by the tables: kind 0 virtual, 1 static, 2 constructor, 3 static of a nest mate, 4 constructor of a nest mate -/
def zcall (call : zM → List zV → zH → Option zR) (cm : zM) (kd na pc : Nat) (ls : zL) (st : List zV) (h : zH) : Option (zC ⊕ zR) :=
  if na ≤ st.length ∧ zwd (st.drop na) ≤ 8 then
    (if kd = 1 ∨ kd = 3 then (match call cm (st.take na).reverse h with
      | some (r, h') => zgo (pc + 3) ls (r.toList ++ st.drop na) h'
      | none => none)
    else match (st.take na).reverse with
      | .inr (.inr (some a)) :: vs => (match zsh h a with
        | some (k, _) => if k = cm.2.1 ∧ k < 13 then (match call cm (.inr (.inr (some a)) :: vs) h with
          | some (r, h') => zgo (pc + 3) ls (r.toList ++ st.drop na) h'
          | none => none) else none
        | none => none)
      | _ => none)
  else none
/-- System.arraycopy between int arrays -/
def zcopy (pc : Nat) (ls : zL) (st : List zV) (h : zH) : Option (zC ⊕ zR) := match st with
  | .inl n :: .inl dp :: .inr (.inr (some a)) :: .inl sp :: .inr (.inr (some b)) :: st => (match zsh h b, zsh h a with
    | some (k0, n0), some (k1, n1) => if k0 = 14 ∧ k1 = 14 ∧ ¬ sp < 0 ∧ ¬ dp < 0 ∧ ¬ n < 0 ∧ sp.toNatClampNeg + n.toNatClampNeg ≤ n0 ∧ dp.toNatClampNeg + n.toNatClampNeg ≤ n1 ∧ zwd st ≤ 8 then
        zgo (pc + 3) ls st (zsRow h a (va_cpy (h.2.1 b) (h.2.1 a) sp.toNatClampNeg dp.toNatClampNeg n.toNatClampNeg)) else none
    | _, _ => none)
  | _ => none
def zprim (deep : Bool) (kd pc : Nat) (ls : zL) (st : List zV) (h : zH) : Option (zC ⊕ zR) := if deep then
    (if kd = 10 then (match st with
      | .inr (.inr (some _)) :: st => if zwd st ≤ 8 then zgo (pc + 3) ls st h else none
      | _ => none)
    else if kd = 11 then (match st with
      | .inl y :: .inl x :: st => if zwd st ≤ 8 then zgo (pc + 3) ls (.inl (if x < y then y else x) :: st) h else none
      | _ => none)
    else if kd = 12 then (match st with
      | .inl y :: .inl x :: st => if zwd st ≤ 8 then zgo (pc + 3) ls (.inl (if y < x then y else x) :: st) h else none
      | _ => none)
    else if kd = 13 then (match st with
      | .inl x :: st => if zwd st ≤ 8 then zgo (pc + 3) ls (.inl (if 0 ≤ x then x else 0 - x) :: st) h else none
      | _ => none)
    else if kd = 14 then zcopy pc ls st h
    else none) else none
/-- the law's own led: what x.led answers goes into out[0], and 0; a throw is 1 -/
def zled (call : zM → List zV → zH → Option zR) (pc : Nat) (ls : zL) (st : List zV) (h : zH) : Option (zC ⊕ zR) := match st with
  | .inr (.inr (some o)) :: .inl p0 :: .inr (.inr (some a)) :: st => if zwd st ≤ 8 ∧ zsh h a = some (11, 16) ∧ zsh h o = some (15, 1) ∧ h.2.2.2.2 < 1000 then
      (match call zledM [.inr (.inr (some a)), .inl p0] h with
      | some (some (.inl b), h') => zgo (pc + 3) ls (.inl 0 :: st) (zsL h' o 0 b.toInt64)
      | some (some (.inr (.inl _)), h') => zgo (pc + 3) ls (.inl 1 :: st) h'
      | _ => none) else none
  | _ => none
def zarith (i : Instr) (len pc : Nat) (ls : zL) (st : List zV) (h : zH) : Option (zC ⊕ zR) := match st with
  | .inl y :: .inl x :: st' => (match zbin i x y with
    | some v => zgo (pc + len) ls (.inl v :: st') h
    | none => (match zun i y with
      | some v => zgo (pc + len) ls (v :: .inl x :: st') h
      | none => none))
  | .inl x :: st' => (match zun i x with
    | some v => zgo (pc + len) ls (v :: st') h
    | none => none)
  | .inr (.inl y) :: .inr (.inl x) :: st' => (match zlbin i x y with
    | some v => zgo (pc + len) ls (v :: st') h
    | none => none)
  | _ => none
/-- String.length and String.charAt on a constant -/
def zstr (cm : zM) (pc : Nat) (ls : zL) (st : List zV) (h : zH) : Option (zC ⊕ zR) := match st with
  | .inr (.inr (some a)) :: st' => (match zsc a with
    | some bs => if cm = mJ0_length_8abf5 ∧ zwd st' ≤ 8 then zgo (pc + 3) ls (.inl (nI bs.length) :: st') h else none
    | none => none)
  | .inl i :: .inr (.inr (some a)) :: st' => (match zsc a with
    | some bs => if cm = mJ0_charAt_5068e ∧ zwd st' ≤ 8 ∧ zin i bs.length = true then zgo (pc + 3) ls (.inl (bs.getD i.toNatClampNeg 0) :: st') h else none
    | none => none)
  | _ => none
def zexec (scr : Option (Nat × (Nat → Int32))) (call : zM → List zV → zH → Option zR) (deep : Bool) (m : zM) (i : Instr) (len pc : Nat) (ls : zL) (st : List zV) (h : zH) : Option (zC ⊕ zR) := match i with
  | .iconst n => zgo (pc + len) ls (.inl (Int32.ofInt n) :: st) h
  | .bipush n => zgo (pc + len) ls (.inl (Int8.ofInt n).toInt32 :: st) h
  | .sipush n => zgo (pc + len) ls (.inl (Int16.ofInt n).toInt32 :: st) h
  | .lconst n => zgo (pc + len) ls (.inr (.inl (Int64.ofNat (n : Nat))) :: st) h
  | .ldc k => zldv m 1 k len pc ls st h
  | .ldc_w k => zldv m 1 k len pc ls st h
  | .ldc2_w k => zldv m 2 k len pc ls st h
  | .iload k => zload 0 k len pc ls st h
  | .iload_n k => zload 0 k len pc ls st h
  | .lload k => zload 1 k len pc ls st h
  | .lload_n k => zload 1 k len pc ls st h
  | .aload k => zload 2 k len pc ls st h
  | .aload_n k => zload 2 k len pc ls st h
  | .istore k => zstore m 0 k len pc ls st h
  | .istore_n k => zstore m 0 k len pc ls st h
  | .lstore k => zstore m 1 k len pc ls st h
  | .lstore_n k => zstore m 1 k len pc ls st h
  | .astore k => zstore m 2 k len pc ls st h
  | .astore_n k => zstore m 2 k len pc ls st h
  | .iinc k n => (match zget ls k with
    | some (.inl x) => if k < m.2.2.1 then zgo (pc + len) (zset1 ls k (.inl (x + Int32.ofInt n))) st h else none
    | _ => none)
  | .lshl => (match st with
    | .inl y :: .inr (.inl x) :: st => zgo (pc + len) ls (.inr (.inl (x <<< (y.toInt64 &&& 63))) :: st) h
    | _ => none)
  | .ifCond c off => (match st with
    | .inl x :: st => zbr (zcond c x 0) pc len off ls st h
    | _ => none)
  | .if_icmp c off => (match st with
    | .inl y :: .inl x :: st => zbr (zcond c x y) pc len off ls st h
    | _ => none)
  | .goto off => zjump pc off ls st h
  | .tableswitch d lo hi offs => (match st with
    | .inl x :: st => if x.toInt < lo ∨ hi < x.toInt then zjump pc d ls st h else (match offs[(x.toInt - lo).toNat]? with
      | some off => zjump pc off ls st h
      | none => none)
    | _ => none)
  | .getfield k => (match st with
    | .inr (.inr (some a)) :: st => (match zfld m.2.1 k, zsh h a with
      | some (ci, f), some (kd, _) => if kd = ci then zgo (pc + len) ls (zfv h ci a f :: st) h else none
      | _, _ => none)
    | _ => none)
  | .putfield k => (match st with
    | v :: .inr (.inr (some a)) :: st => (match zfld m.2.1 k, zsh h a with
      | some (ci, f), some (kd, _) => if kd = ci ∧ (zfin ci f = false ∨ (m.2.2.2.2.2 = true ∧ m.2.1 = ci)) then (match zput h ci a f v with
        | some h' => zgo (pc + len) ls st h'
        | none => none) else none
      | _, _ => none)
    | _ => none)
  | .getstatic k => if m.2.1 = 6 ∧ k = zgsk then zgo (pc + len) ls (.inr (.inr (some 1000001)) :: st) h else none
  | .iaload => (match st with
    | .inl i :: .inr (.inr (some a)) :: st => (match zld scr h 14 a i with
      | some v => zgo (pc + len) ls (.inl v :: st) h
      | none => none)
    | _ => none)
  | .baload => (match st with
    | .inl i :: .inr (.inr (some a)) :: st => (match zld scr h 13 a i with
      | some v => zgo (pc + len) ls (.inl v :: st) h
      | none => none)
    | _ => none)
  | .laload => (match st with
    | .inl i :: .inr (.inr (some a)) :: st => (match zsh h a with
      | some (k, n) => if k = 15 ∧ zin i n = true then zgo (pc + len) ls (.inr (.inl (h.2.2.1 a i.toNatClampNeg)) :: st) h else none
      | none => none)
    | _ => none)
  | .aaload => (match st with
    | .inl i :: .inr (.inr (some a)) :: st => (match zsh h a with
      | some (k, n) => if 16 ≤ k ∧ k ≤ 20 ∧ zin i n = true then zgo (pc + len) ls (.inr (.inr (h.2.2.2.1 a i.toNatClampNeg)) :: st) h else none
      | none => none)
    | _ => none)
  | .iastore => (match st with
    | .inl v :: .inl i :: .inr (.inr (some a)) :: st => (match zst h 14 a i v with
      | some h' => zgo (pc + len) ls st h'
      | none => none)
    | _ => none)
  | .bastore => (match st with
    | .inl v :: .inl i :: .inr (.inr (some a)) :: st => (match zst h 13 a i (vp_nar .byte v) with
      | some h' => zgo (pc + len) ls st h'
      | none => none)
    | _ => none)
  | .lastore => (match st with
    | .inr (.inl v) :: .inl i :: .inr (.inr (some a)) :: st => (match zsh h a with
      | some (k, n) => if k = 15 ∧ zin i n = true then zgo (pc + len) ls st (zsL h a i.toNatClampNeg v) else none
      | none => none)
    | _ => none)
  | .aastore => (match st with
    | .inr (.inr (some v)) :: .inl i :: .inr (.inr (some a)) :: st => (match zsh h a, zsh h v with
      | some (k, n), some (kv, _) => if 16 ≤ k ∧ k ≤ 20 ∧ zin i n = true ∧ zrc k = kv then zgo (pc + len) ls st (zsR h a i.toNatClampNeg (some v)) else none
      | _, _ => none)
    | _ => none)
  | .arraylength => (match st with
    | .inr (.inr (some a)) :: st => (match zlen scr h a with
      | some v => zgo (pc + len) ls (.inl v :: st) h
      | none => none)
    | _ => none)
  | .new k => (match zcls m.2.1 k with
    | some ci => if ci < 13 then (if h.2.2.2.2 = 0 ∧ h.1.1 < 900000 then zgo (pc + len) ls (.inr (.inr (some h.1.1)) :: st) (znew h ci (zft ci).length) else none) else (if st = [] ∧ m.2.2.2.2.1 = yX11_led ∧ pc = 45 ∧ h.2.2.2.2 < 1000 then some (.inr (some (.inr (.inl (-1))), zthr h)) else none)
    | none => none)
  | .newarray t => (match st with
    | .inl n :: st => if h.2.2.2.2 = 0 ∧ h.1.1 < 900000 ∧ ¬ n < 0 ∧ n.toNatClampNeg ≤ 100000 then (match t with
      | .byte => zgo (pc + len) ls (.inr (.inr (some h.1.1)) :: st) (znew h 13 n.toNatClampNeg)
      | .int => zgo (pc + len) ls (.inr (.inr (some h.1.1)) :: st) (znew h 14 n.toNatClampNeg)
      | .long => zgo (pc + len) ls (.inr (.inr (some h.1.1)) :: st) (znew h 15 n.toNatClampNeg)
      | _ => none) else none
    | _ => none)
  | .anewarray k => (match st with
    | .inl n :: st => if h.2.2.2.2 = 0 ∧ h.1.1 < 900000 ∧ ¬ n < 0 ∧ n.toNatClampNeg ≤ 100000 then (match zcls m.2.1 k with
      | some ci => if 16 ≤ zak ci ∧ zak ci ≤ 20 then zgo (pc + len) ls (.inr (.inr (some h.1.1)) :: st) (znew h (zak ci) n.toNatClampNeg) else none
      | none => none) else none
    | _ => none)
  | .dup => (match st with
    | v :: st => if zcat v = 1 then zgo (pc + len) ls (v :: v :: st) h else none
    | _ => none)
  | .dup2 => (match st with
    | v :: w :: st => if zcat v = 1 ∧ zcat w = 1 then zgo (pc + len) ls (v :: w :: v :: w :: st) h else none
    | _ => none)
  | .pop => (match st with
    | v :: st => if zcat v = 1 then zgo (pc + len) ls st h else none
    | _ => none)
  | .pop2 => (match st with
    | v :: st => if zcat v = 2 then zgo (pc + len) ls st h else none
    | _ => none)
  | .invokevirtual k => (match zmth m.2.1 k with
    | some (kd, na, cm) => if kd = 0 then (if cm.2.1 = 14 then zstr cm pc ls st h else zcall call cm kd na pc ls st h) else none
    | none => none)
  | .invokestatic k => (match zmth m.2.1 k with
    | some (kd, na, cm) => if kd = 1 ∨ kd = 3 then zcall call cm kd na pc ls st h else if kd = 16 then (if scr.isSome = true ∧ deep = true then zled call pc ls st h else none) else if kd = 10 then none else zprim deep kd pc ls st h
    | none => none)
  | .invokespecial k => (match zmth m.2.1 k with
    | some (kd, na, cm) => if kd = 2 ∨ kd = 4 then zcall call cm kd na pc ls st h else if kd = 10 then zprim deep kd pc ls st h else none
    | none => none)
  | .ireturn => (match st with
    | [.inl x] => (match m.2.2.2.1 with
      | some ty => if narrow ty (.int x) = .int x then some (.inr (some (.inl x), h)) else none
      | none => none)
    | _ => none)
  | .lreturn => (match st with
    | [.inr (.inl x)] => if m.2.2.2.1 = some .long then some (.inr (some (.inr (.inl x)), h)) else none
    | _ => none)
  | .return_ => (match st with
    | [] => if m.2.2.2.1 = none then some (.inr (none, h)) else none
    | _ => none)
  | i => zarith i len pc ls st h
/-- how long an instruction is (0: not asked) -/
def zilen (i : Instr) : Nat := match i with
  | .bipush _ => 2
  | .iload _ => 2
  | .lload _ => 2
  | .aload _ => 2
  | .istore _ => 2
  | .lstore _ => 2
  | .astore _ => 2
  | .ldc _ => 2
  | .newarray _ => 2
  | .sipush _ => 3
  | .ldc_w _ => 3
  | .ldc2_w _ => 3
  | .iinc _ _ => 3
  | .ifCond _ _ => 3
  | .if_icmp _ _ => 3
  | .goto _ => 3
  | .getfield _ => 3
  | .getstatic _ => 3
  | .putfield _ => 3
  | .invokevirtual _ => 3
  | .invokestatic _ => 3
  | .invokespecial _ => 3
  | .new _ => 3
  | .anewarray _ => 3
  | .tableswitch _ _ _ _ => 0
  | _ => 1
def zstep (scr : Option (Nat × (Nat → Int32))) (call : zM → List zV → zH → Option zR) (deep : Bool) (m : zM) (c : zC) : Option (zC ⊕ zR) := match decode m.1 c.1 with
  | .ok (i, len) => if zilen i = 0 ∨ len = zilen i then zexec scr call deep m i len c.1 c.2.1 c.2.2.1 c.2.2.2 else none
  | .error _ => none
def zrun : Nat → Option (Nat × (Nat → Int32)) → Nat → zM → zC → Option zR
  | 0, _, _, _, _ => none
  | n + 1, scr, d, m, c => (match zstep scr (fun k vs h => (match d with
      | 0 => none
      | d' + 1 => if zwd vs ≤ k.2.2.1 then zrun n none d' k (0, zargs 0 vs, [], h) else none)) (decide (0 < d)) m c with
    | some (.inl c') => zrun n scr d m c'
    | some (.inr r) => some r
    | none => none)
