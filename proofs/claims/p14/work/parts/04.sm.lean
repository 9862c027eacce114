section Pk0
/-! THE SMALL MACHINE: values, heaps, one step, runs. Its tables (zfld, zcst, zmth, zcls, zsta, znf) stand ahead. -/
/-- the heap: kinds and lengths of the cells; ints, longs, references by cell and place; how often led has thrown -/
abbrev zH : Type := (Nat × (Nat → Nat × Nat) × Nat) × (Nat → Nat → Int32) × (Nat → Nat → Int64) × (Nat → Nat → Option Nat) × Nat
abbrev zL : Type := List (Nat × zV)
/-- the kind and length of a cell -/
def zsh (h : zH) (a : Nat) : Option (Nat × Nat) := if a < h.1.1 then some (h.1.2.1 a) else none
def zup {α : Type} (f : Nat → Nat → α) (a k : Nat) (v : α) : Nat → Nat → α := fun b j => if b = a then (if j = k then v else f b j) else f b j
def zrow {α : Type} (f : Nat → Nat → α) (a : Nat) (g : Nat → α) : Nat → Nat → α := fun b j => if b = a then g j else f b j
def zsI (h : zH) (a k : Nat) (v : Int32) : zH := (h.1, zup h.2.1 a k v, h.2.2.1, h.2.2.2.1, h.2.2.2.2)
def zsL (h : zH) (a k : Nat) (v : Int64) : zH := (h.1, h.2.1, zup h.2.2.1 a k v, h.2.2.2.1, h.2.2.2.2)
def zsR (h : zH) (a k : Nat) (v : Option Nat) : zH := (h.1, h.2.1, h.2.2.1, zup h.2.2.2.1 a k v, h.2.2.2.2)
def zsRow (h : zH) (a : Nat) (g : Nat → Int32) : zH := (h.1, zrow h.2.1 a g, h.2.2.1, h.2.2.2.1, h.2.2.2.2)
/-- a new cell: all zero, all null -/
def znew (h : zH) (kind len : Nat) : zH := ((h.1.1 + 1, (fun b => if b = h.1.1 then (kind, len) else h.1.2.1 b), h.1.2.2 + len), zrow h.2.1 h.1.1 (fun _ => 0), zrow h.2.2.1 h.1.1 (fun _ => 0), zrow h.2.2.2.1 h.1.1 (fun _ => none), h.2.2.2.2)
def zthr (h : zH) : zH := (h.1, h.2.1, h.2.2.1, h.2.2.2.1, h.2.2.2.2 + 1)
def zcat (v : zV) : Nat := match v with
  | .inr (.inl _) => 2
  | _ => 1
def zget (ls : zL) (i : Nat) : Option zV := match ls with
  | [] => none
  | q :: t => if q.1 = i then some q.2 else zget t i
def zset1 (ls : zL) (i : Nat) (v : zV) : zL := (i, v) :: ls.filter (fun q => !(q.1 == i) && !(q.1 + 1 == i && zcat q.2 == 2))
def zset2 (ls : zL) (i : Nat) (v : zV) : zL := (i, v) :: ls.filter (fun q => !(q.1 == i) && (!(q.1 == i + 1) && !(q.1 + 1 == i && zcat q.2 == 2)))
def zargs : Nat → List zV → zL
  | _, [] => []
  | i, v :: vs => (i, v) :: zargs (if zcat v = 2 then i + 2 else i + 1) vs
def zwd (vs : List zV) : Nat := (vs.map zcat).sum
def zcond (c : ClassFile.Cond) (x y : Int32) : Bool := match c with
  | .eq => decide (x = y)
  | .ne => decide (¬ x = y)
  | .lt => decide (x < y)
  | .ge => decide (y ≤ x)
  | .gt => decide (y < x)
  | .le => decide (x ≤ y)
abbrev zC : Type := Nat × zL × List zV × zH
abbrev zR : Type := Option zV × zH
/-- on by len, with this stack -/
abbrev zgo (pc : Nat) (ls : zL) (st : List zV) (h : zH) : Option (zC ⊕ zR) := some (.inl (pc, ls, st, h))
def zjump (pc : Nat) (off : Int) (ls : zL) (st : List zV) (h : zH) : Option (zC ⊕ zR) := if 0 ≤ (pc : Int) + off then zgo ((pc : Int) + off).toNat ls st h else none
/-- a branch: to pc + off, or on -/
def zbr (b : Bool) (pc len : Nat) (off : Int) (ls : zL) (st : List zV) (h : zH) : Option (zC ⊕ zR) := if 0 ≤ (pc : Int) + off then (if b then zgo ((pc : Int) + off).toNat ls st h else zgo (pc + len) ls st h) else none
/-- the place in an array of n -/
def zin (i : Int32) (n : Nat) : Bool := decide (¬ (i < 0 ∨ n ≤ i.toNatClampNeg))
/-- what whales can carry: the class's own row -/
def zcc (k : Nat) : Int32 := ([3, 9, 99, 9] : List Int32).getD k 0
def zld (scr : Option (Nat × (Nat → Int32))) (h : zH) (kind a : Nat) (i : Int32) : Option Int32 := match zsh h a with
  | some (k, n) => if k = kind then (if zin i n then some (h.2.1 a i.toNatClampNeg) else none) else none
  | none => if kind = 14 ∧ a = 1000000 then (match scr with
    | some (n, xs) => if zin i n then some (xs i.toNatClampNeg) else none
    | none => none) else (if kind = 14 ∧ a = 1000001 then (if zin i 4 then some (zcc i.toNatClampNeg) else none) else none)
def zst (h : zH) (kind a : Nat) (i : Int32) (v : Int32) : Option zH := match zsh h a with
  | some (k, n) => if k = kind then (if zin i n then some (zsI h a i.toNatClampNeg v) else none) else none
  | none => none
def zlen (scr : Option (Nat × (Nat → Int32))) (h : zH) (a : Nat) : Option Int32 := match zsh h a with
  | some (k, n) => if 13 ≤ k then some (Int32.ofNat n) else none
  | none => if a = 1000000 then scr.map (fun q => Int32.ofNat q.1) else none
def zfv (h : zH) (ci a f : Nat) : zV := if (zft ci).getD f 0 = 3 then .inr (.inr (h.2.2.2.1 a f)) else .inl (h.2.1 a f)
/-- a field's store: an int, a boolean (0, 1), a reference -/
def zput (h : zH) (ci a f : Nat) (v : zV) : Option zH := match v with
  | .inl x => if (zft ci).getD f 9 = 0 ∨ ((zft ci).getD f 9 = 1 ∧ (x = 0 ∨ x = 1)) then some (zsI h a f x) else none
  | .inr (.inr r) => if (zft ci).getD f 9 = 3 then some (zsR h a f r) else none
  | _ => none
def zbin (i : Instr) (x y : Int32) : Option Int32 := match i with
  | .iadd => some (x + y)
  | .isub => some (x - y)
  | .imul => some (x * y)
  | .iand => some (x &&& y)
  | .ior => some (x ||| y)
  | .ixor => some (x ^^^ y)
  | .ishl => some (x <<< (y &&& 31))
  | .ishr => some (x >>> (y &&& 31))
  | .iushr => some (x.toUInt32 >>> (y.toUInt32 &&& Int32.toUInt32 31)).toInt32
  | .idiv => if y = 0 then none else some (x / y)
  | .irem => if y = 0 then none else some (x - x / y * y)
  | _ => none
def zun (i : Instr) (x : Int32) : Option zV := match i with
  | .ineg => some (.inl (-x))
  | .i2b => some (.inl x.toInt8.toInt32)
  | .i2c => some (.inl (x.toUInt32 % 65536).toInt32)
  | .i2l => some (.inr (.inl x.toInt64))
  | _ => none
def zlbin (i : Instr) (x y : Int64) : Option zV := match i with
  | .lor => some (.inr (.inl (x ||| y)))
  | .lcmp => some (.inl (lg_cmp x y))
  | .ldiv => if y = 0 then none else some (.inr (.inl (x / y)))
  | .lrem => if y = 0 then none else some (.inr (.inl (x - x / y * y)))
  | _ => none
def zldv (m : zM) (ca k len pc : Nat) (ls : zL) (st : List zV) (h : zH) : Option (zC ⊕ zR) := match zcst m.2.1 k with
  | some v => if zcat v = ca then zgo (pc + len) ls (v :: st) h else none
  | none => none
/-- load, of a sort: 0 int, 1 long, 2 reference -/
def zload (so i len pc : Nat) (ls : zL) (st : List zV) (h : zH) : Option (zC ⊕ zR) := match zget ls i with
  | some (.inl x) => if so = 0 then zgo (pc + len) ls (.inl x :: st) h else none
  | some (.inr (.inl x)) => if so = 1 then zgo (pc + len) ls (.inr (.inl x) :: st) h else none
  | some (.inr (.inr (some a))) => if so = 2 then zgo (pc + len) ls (.inr (.inr (some a)) :: st) h else none
  | _ => none
def zstore (m : zM) (so i len pc : Nat) (ls : zL) (st : List zV) (h : zH) : Option (zC ⊕ zR) := match st with
  | .inl x :: st => if so = 0 ∧ i < m.2.2.1 then zgo (pc + len) (zset1 ls i (.inl x)) st h else none
  | .inr (.inl x) :: st => if so = 1 ∧ i + 1 < m.2.2.1 then zgo (pc + len) (zset2 ls i (.inr (.inl x))) st h else none
  | .inr (.inr (some a)) :: st => if so = 2 ∧ i < m.2.2.1 then zgo (pc + len) (zset1 ls i (.inr (.inr (some a)))) st h else none
  | _ => none
/-- a call by the tables: kind 0 virtual, 1 static, 2 constructor, 3 static of a nest mate, 4 constructor of a nest mate -/
def zcall (call : zM → List zV → zH → Option zR) (cm : zM) (kd na pc : Nat) (ls : zL) (st : List zV) (h : zH) : Option (zC ⊕ zR) :=
  if na ≤ st.length ∧ zwd (st.drop na) ≤ 8 then
    (if kd = 1 ∨ kd = 3 then (match call cm (st.take na).reverse h with
      | some (r, h') => zgo (pc + 3) ls (r.toList ++ st.drop na) h'
      | none => none)
    else match (st.take na).reverse with
      | .inr (.inr (some a)) :: vs => (match zsh h a with
        | some (k, _) => if k = cm.2.1 ∧ k < 13 then (match call cm (.inr (.inr (some a)) :: vs) h with
          | some (r, h') => zgo (pc + 3) ls (r.toList ++ st.drop na) h'
          | none => none) else none
        | none => none)
      | _ => none)
  else none
/-- System.arraycopy between int arrays -/
def zcopy (pc : Nat) (ls : zL) (st : List zV) (h : zH) : Option (zC ⊕ zR) := match st with
  | .inl n :: .inl dp :: .inr (.inr (some a)) :: .inl sp :: .inr (.inr (some b)) :: st => (match zsh h b, zsh h a with
    | some (k0, n0), some (k1, n1) => if k0 = 14 ∧ k1 = 14 ∧ ¬ sp < 0 ∧ ¬ dp < 0 ∧ ¬ n < 0 ∧ sp.toNatClampNeg + n.toNatClampNeg ≤ n0 ∧ dp.toNatClampNeg + n.toNatClampNeg ≤ n1 ∧ zwd st ≤ 8 then
        zgo (pc + 3) ls st (zsRow h a (va_cpy (h.2.1 b) (h.2.1 a) sp.toNatClampNeg dp.toNatClampNeg n.toNatClampNeg)) else none
    | _, _ => none)
  | _ => none
def zprim (deep : Bool) (kd pc : Nat) (ls : zL) (st : List zV) (h : zH) : Option (zC ⊕ zR) := if deep then
    (if kd = 10 then (match st with
      | .inr (.inr (some _)) :: st => if zwd st ≤ 8 then zgo (pc + 3) ls st h else none
      | _ => none)
    else if kd = 11 then (match st with
      | .inl y :: .inl x :: st => if zwd st ≤ 8 then zgo (pc + 3) ls (.inl (if x < y then y else x) :: st) h else none
      | _ => none)
    else if kd = 12 then (match st with
      | .inl y :: .inl x :: st => if zwd st ≤ 8 then zgo (pc + 3) ls (.inl (if y < x then y else x) :: st) h else none
      | _ => none)
    else if kd = 13 then (match st with
      | .inl x :: st => if zwd st ≤ 8 then zgo (pc + 3) ls (.inl (if 0 ≤ x then x else 0 - x) :: st) h else none
      | _ => none)
    else if kd = 14 then zcopy pc ls st h
    else none) else none
/-- the law's own led: what x.led answers goes into out[0], and 0; a throw is 1 -/
def zled (call : zM → List zV → zH → Option zR) (pc : Nat) (ls : zL) (st : List zV) (h : zH) : Option (zC ⊕ zR) := match st with
  | .inr (.inr (some o)) :: .inl p0 :: .inr (.inr (some a)) :: st => if zwd st ≤ 8 ∧ zsh h a = some (11, 16) ∧ zsh h o = some (15, 1) ∧ h.2.2.2.2 < 1000 then
      (match call zledM [.inr (.inr (some a)), .inl p0] h with
      | some (some (.inl b), h') => zgo (pc + 3) ls (.inl 0 :: st) (zsL h' o 0 b.toInt64)
      | some (some (.inr (.inl _)), h') => zgo (pc + 3) ls (.inl 1 :: st) h'
      | _ => none) else none
  | _ => none
def zarith (i : Instr) (len pc : Nat) (ls : zL) (st : List zV) (h : zH) : Option (zC ⊕ zR) := match st with
  | .inl y :: .inl x :: st' => (match zbin i x y with
    | some v => zgo (pc + len) ls (.inl v :: st') h
    | none => (match zun i y with
      | some v => zgo (pc + len) ls (v :: .inl x :: st') h
      | none => none))
  | .inl x :: st' => (match zun i x with
    | some v => zgo (pc + len) ls (v :: st') h
    | none => none)
  | .inr (.inl y) :: .inr (.inl x) :: st' => (match zlbin i x y with
    | some v => zgo (pc + len) ls (v :: st') h
    | none => none)
  | _ => none
/-- String.length and String.charAt on a constant -/
def zstr (cm : zM) (pc : Nat) (ls : zL) (st : List zV) (h : zH) : Option (zC ⊕ zR) := match st with
  | .inr (.inr (some a)) :: st' => (match zsc a with
    | some bs => if cm = mJ0_length_8abf5 ∧ zwd st' ≤ 8 then zgo (pc + 3) ls (.inl (nI bs.length) :: st') h else none
    | none => none)
  | .inl i :: .inr (.inr (some a)) :: st' => (match zsc a with
    | some bs => if cm = mJ0_charAt_5068e ∧ zwd st' ≤ 8 ∧ zin i bs.length = true then zgo (pc + 3) ls (.inl (bs.getD i.toNatClampNeg 0) :: st') h else none
    | none => none)
  | _ => none
def zexec (scr : Option (Nat × (Nat → Int32))) (call : zM → List zV → zH → Option zR) (deep : Bool) (m : zM) (i : Instr) (len pc : Nat) (ls : zL) (st : List zV) (h : zH) : Option (zC ⊕ zR) := match i with
  | .iconst n => zgo (pc + len) ls (.inl (Int32.ofInt n) :: st) h
  | .bipush n => zgo (pc + len) ls (.inl (Int8.ofInt n).toInt32 :: st) h
  | .sipush n => zgo (pc + len) ls (.inl (Int16.ofInt n).toInt32 :: st) h
  | .lconst n => zgo (pc + len) ls (.inr (.inl (Int64.ofNat (n : Nat))) :: st) h
  | .ldc k => zldv m 1 k len pc ls st h
  | .ldc_w k => zldv m 1 k len pc ls st h
  | .ldc2_w k => zldv m 2 k len pc ls st h
  | .iload k => zload 0 k len pc ls st h
  | .iload_n k => zload 0 k len pc ls st h
  | .lload k => zload 1 k len pc ls st h
  | .lload_n k => zload 1 k len pc ls st h
  | .aload k => zload 2 k len pc ls st h
  | .aload_n k => zload 2 k len pc ls st h
  | .istore k => zstore m 0 k len pc ls st h
  | .istore_n k => zstore m 0 k len pc ls st h
  | .lstore k => zstore m 1 k len pc ls st h
  | .lstore_n k => zstore m 1 k len pc ls st h
  | .astore k => zstore m 2 k len pc ls st h
  | .astore_n k => zstore m 2 k len pc ls st h
  | .iinc k n => (match zget ls k with
    | some (.inl x) => if k < m.2.2.1 then zgo (pc + len) (zset1 ls k (.inl (x + Int32.ofInt n))) st h else none
    | _ => none)
  | .lshl => (match st with
    | .inl y :: .inr (.inl x) :: st => zgo (pc + len) ls (.inr (.inl (x <<< (y.toInt64 &&& 63))) :: st) h
    | _ => none)
  | .ifCond c off => (match st with
    | .inl x :: st => zbr (zcond c x 0) pc len off ls st h
    | _ => none)
  | .if_icmp c off => (match st with
    | .inl y :: .inl x :: st => zbr (zcond c x y) pc len off ls st h
    | _ => none)
  | .goto off => zjump pc off ls st h
  | .tableswitch d lo hi offs => (match st with
    | .inl x :: st => if x.toInt < lo ∨ hi < x.toInt then zjump pc d ls st h else (match offs[(x.toInt - lo).toNat]? with
      | some off => zjump pc off ls st h
      | none => none)
    | _ => none)
  | .getfield k => (match st with
    | .inr (.inr (some a)) :: st => (match zfld m.2.1 k, zsh h a with
      | some (ci, f), some (kd, _) => if kd = ci then zgo (pc + len) ls (zfv h ci a f :: st) h else none
      | _, _ => none)
    | _ => none)
  | .putfield k => (match st with
    | v :: .inr (.inr (some a)) :: st => (match zfld m.2.1 k, zsh h a with
      | some (ci, f), some (kd, _) => if kd = ci ∧ (zfin ci f = false ∨ (m.2.2.2.2.2 = true ∧ m.2.1 = ci)) then (match zput h ci a f v with
        | some h' => zgo (pc + len) ls st h'
        | none => none) else none
      | _, _ => none)
    | _ => none)
  | .getstatic k => if m.2.1 = 6 ∧ k = zgsk then zgo (pc + len) ls (.inr (.inr (some 1000001)) :: st) h else none
  | .iaload => (match st with
    | .inl i :: .inr (.inr (some a)) :: st => (match zld scr h 14 a i with
      | some v => zgo (pc + len) ls (.inl v :: st) h
      | none => none)
    | _ => none)
  | .baload => (match st with
    | .inl i :: .inr (.inr (some a)) :: st => (match zld scr h 13 a i with
      | some v => zgo (pc + len) ls (.inl v :: st) h
      | none => none)
    | _ => none)
  | .laload => (match st with
    | .inl i :: .inr (.inr (some a)) :: st => (match zsh h a with
      | some (k, n) => if k = 15 ∧ zin i n = true then zgo (pc + len) ls (.inr (.inl (h.2.2.1 a i.toNatClampNeg)) :: st) h else none
      | none => none)
    | _ => none)
  | .aaload => (match st with
    | .inl i :: .inr (.inr (some a)) :: st => (match zsh h a with
      | some (k, n) => if 16 ≤ k ∧ k ≤ 20 ∧ zin i n = true then zgo (pc + len) ls (.inr (.inr (h.2.2.2.1 a i.toNatClampNeg)) :: st) h else none
      | none => none)
    | _ => none)
  | .iastore => (match st with
    | .inl v :: .inl i :: .inr (.inr (some a)) :: st => (match zst h 14 a i v with
      | some h' => zgo (pc + len) ls st h'
      | none => none)
    | _ => none)
  | .bastore => (match st with
    | .inl v :: .inl i :: .inr (.inr (some a)) :: st => (match zst h 13 a i (vp_nar .byte v) with
      | some h' => zgo (pc + len) ls st h'
      | none => none)
    | _ => none)
  | .lastore => (match st with
    | .inr (.inl v) :: .inl i :: .inr (.inr (some a)) :: st => (match zsh h a with
      | some (k, n) => if k = 15 ∧ zin i n = true then zgo (pc + len) ls st (zsL h a i.toNatClampNeg v) else none
      | none => none)
    | _ => none)
  | .aastore => (match st with
    | .inr (.inr (some v)) :: .inl i :: .inr (.inr (some a)) :: st => (match zsh h a, zsh h v with
      | some (k, n), some (kv, _) => if 16 ≤ k ∧ k ≤ 20 ∧ zin i n = true ∧ zrc k = kv then zgo (pc + len) ls st (zsR h a i.toNatClampNeg (some v)) else none
      | _, _ => none)
    | _ => none)
  | .arraylength => (match st with
    | .inr (.inr (some a)) :: st => (match zlen scr h a with
      | some v => zgo (pc + len) ls (.inl v :: st) h
      | none => none)
    | _ => none)
  | .new k => (match zcls m.2.1 k with
    | some ci => if ci < 13 then (if h.2.2.2.2 = 0 ∧ h.1.1 < 900000 then zgo (pc + len) ls (.inr (.inr (some h.1.1)) :: st) (znew h ci (zft ci).length) else none) else (if st = [] ∧ m.2.2.2.2.1 = yX11_led ∧ pc = 45 ∧ h.2.2.2.2 < 1000 then some (.inr (some (.inr (.inl (-1))), zthr h)) else none)
    | none => none)
  | .newarray t => (match st with
    | .inl n :: st => if h.2.2.2.2 = 0 ∧ h.1.1 < 900000 ∧ ¬ n < 0 ∧ n.toNatClampNeg ≤ 100000 then (match t with
      | .byte => zgo (pc + len) ls (.inr (.inr (some h.1.1)) :: st) (znew h 13 n.toNatClampNeg)
      | .int => zgo (pc + len) ls (.inr (.inr (some h.1.1)) :: st) (znew h 14 n.toNatClampNeg)
      | .long => zgo (pc + len) ls (.inr (.inr (some h.1.1)) :: st) (znew h 15 n.toNatClampNeg)
      | _ => none) else none
    | _ => none)
  | .anewarray k => (match st with
    | .inl n :: st => if h.2.2.2.2 = 0 ∧ h.1.1 < 900000 ∧ ¬ n < 0 ∧ n.toNatClampNeg ≤ 100000 then (match zcls m.2.1 k with
      | some ci => if 16 ≤ zak ci ∧ zak ci ≤ 20 then zgo (pc + len) ls (.inr (.inr (some h.1.1)) :: st) (znew h (zak ci) n.toNatClampNeg) else none
      | none => none) else none
    | _ => none)
  | .dup => (match st with
    | v :: st => if zcat v = 1 then zgo (pc + len) ls (v :: v :: st) h else none
    | _ => none)
  | .dup2 => (match st with
    | v :: w :: st => if zcat v = 1 ∧ zcat w = 1 then zgo (pc + len) ls (v :: w :: v :: w :: st) h else none
    | _ => none)
  | .pop => (match st with
    | v :: st => if zcat v = 1 then zgo (pc + len) ls st h else none
    | _ => none)
  | .pop2 => (match st with
    | v :: st => if zcat v = 2 then zgo (pc + len) ls st h else none
    | _ => none)
  | .invokevirtual k => (match zmth m.2.1 k with
    | some (kd, na, cm) => if kd = 0 then (if cm.2.1 = 14 then zstr cm pc ls st h else zcall call cm kd na pc ls st h) else none
    | none => none)
  | .invokestatic k => (match zmth m.2.1 k with
    | some (kd, na, cm) => if kd = 1 ∨ kd = 3 then zcall call cm kd na pc ls st h else if kd = 16 then (if scr.isSome = true ∧ deep = true then zled call pc ls st h else none) else if kd = 10 then none else zprim deep kd pc ls st h
    | none => none)
  | .invokespecial k => (match zmth m.2.1 k with
    | some (kd, na, cm) => if kd = 2 ∨ kd = 4 then zcall call cm kd na pc ls st h else if kd = 10 then zprim deep kd pc ls st h else none
    | none => none)
  | .ireturn => (match st with
    | [.inl x] => (match m.2.2.2.1 with
      | some ty => if narrow ty (.int x) = .int x then some (.inr (some (.inl x), h)) else none
      | none => none)
    | _ => none)
  | .lreturn => (match st with
    | [.inr (.inl x)] => if m.2.2.2.1 = some .long then some (.inr (some (.inr (.inl x)), h)) else none
    | _ => none)
  | .return_ => (match st with
    | [] => if m.2.2.2.1 = none then some (.inr (none, h)) else none
    | _ => none)
  | i => zarith i len pc ls st h
/-- how long an instruction is (0: not asked) -/
def zilen (i : Instr) : Nat := match i with
  | .bipush _ => 2
  | .iload _ => 2
  | .lload _ => 2
  | .aload _ => 2
  | .istore _ => 2
  | .lstore _ => 2
  | .astore _ => 2
  | .ldc _ => 2
  | .newarray _ => 2
  | .sipush _ => 3
  | .ldc_w _ => 3
  | .ldc2_w _ => 3
  | .iinc _ _ => 3
  | .ifCond _ _ => 3
  | .if_icmp _ _ => 3
  | .goto _ => 3
  | .getfield _ => 3
  | .getstatic _ => 3
  | .putfield _ => 3
  | .invokevirtual _ => 3
  | .invokestatic _ => 3
  | .invokespecial _ => 3
  | .new _ => 3
  | .anewarray _ => 3
  | .tableswitch _ _ _ _ => 0
  | _ => 1
def zstep (scr : Option (Nat × (Nat → Int32))) (call : zM → List zV → zH → Option zR) (deep : Bool) (m : zM) (c : zC) : Option (zC ⊕ zR) := match decode m.1 c.1 with
  | .ok (i, len) => if zilen i = 0 ∨ len = zilen i then zexec scr call deep m i len c.1 c.2.1 c.2.2.1 c.2.2.2 else none
  | .error _ => none
def zrun : Nat → Option (Nat × (Nat → Int32)) → Nat → zM → zC → Option zR
  | 0, _, _, _, _ => none
  | n + 1, scr, d, m, c => (match zstep scr (fun k vs h => (match d with
      | 0 => none
      | d' + 1 => if zwd vs ≤ k.2.2.1 then zrun n none d' k (0, zargs 0 vs, [], h) else none)) (decide (0 < d)) m c with
    | some (.inl c') => zrun n scr d m c'
    | some (.inr r) => some r
    | none => none)
end Pk0
section Pk1
/-! THE SMALL MACHINE OVER THE LARGE ONE: the world of a small heap -/
def zad (B : Nat) (sp : Nat → Nat) (a : Nat) : Nat := if a < 1000000 then B + a else sp a
def zcv (B : Nat) (sp : Nat → Nat) (v : zV) : Value := match v with
  | .inl x => .int x
  | .inr (.inl x) => .long x
  | .inr (.inr r) => va_rf (r.map (zad B sp))
def zE (B : Nat) (sp : Nat → Nat) (cA : Nat → ClassId) (h : zH) (a kind len : Nat) : va_E :=
  if kind < 13 then .inr (kind, (List.range (zft kind).length).map (fun f => zcv B sp (zfv h kind a f)))
  else if kind < 15 then .inl (cA kind, len, .inl (h.2.1 a))
  else if kind = 15 then .inl (cA kind, len, .inr (.inl (h.2.2.1 a)))
  else .inl (cA kind, len, .inr (.inr (.inr (.inr (fun k => (h.2.2.2.1 a k).map (zad B sp))))))
def zW (B : Nat) (sp : Nat → Nat) (cA : Nat → ClassId) (h : zH) : va_W := (List.range h.1.1).map (fun a => (B + a, zE B sp cA h a (h.1.2.1 a).1 (h.1.2.1 a).2))
def zAr (B : Nat) : Nat → Prop := fun q => B ≤ q
def zok (h : zH) : Prop := h.1.1 ≤ 900000 ∧ ∀ (a : Nat) (q : Nat × Nat), zsh h a = some q → q.1 ≤ 20
def ztys (cA : Nat → ClassId) : List (ClassId × FieldType) := [(cA 13, .byte), (cA 14, .int), (cA 15, .long), (cA 16, .object RX0), (cA 17, .object RX2), (cA 18, .object RX8), (cA 19, .object RX9), (cA 20, .object RX10)]
def zRel (B : Nat) (sp : Nat → Nat) (cA : Nat → ClassId) (D : va_G) (h : zH) (H : Heap) : Prop := va_P D vwCl (zW B sp cA h) H ∧ zok h ∧ (h.2.2.2.2 = 0 → H.size = B + h.1.1)
section ZW
variable {B : Nat} {sp : Nat → Nat} {cA : Nat → ClassId} {D : va_G} {h h' : zH} {H : Heap}
theorem zsh_lt {a : Nat} {q : Nat × Nat} (hq : zsh h a = some q) : a < h.1.1 := by
  unfold zsh at hq
  split at hq
  · next q => exact q
  · cases hq
theorem zsh_eq {a : Nat} {q : Nat × Nat} (hq : zsh h a = some q) : h.1.2.1 a = q := by
  unfold zsh at hq
  split at hq
  · cases hq; rfl
  · cases hq
theorem zW_get {a : Nat} {q : Nat × Nat} (hq : zsh h a = some q) : (zW B sp cA h)[a]? = some (B + a, zE B sp cA h a q.1 q.2) := by
  have h1 := zsh_lt hq
  have h2 := zsh_eq hq
  simp [zW, h1, h2]
theorem zW_some {a : Nat} {x : Nat × va_E} (hq : (zW B sp cA h)[a]? = some x) : ∃ q : Nat × Nat, zsh h a = some q ∧ x = (B + a, zE B sp cA h a q.1 q.2) := by
  simp only [zW, List.getElem?_map, Option.map_eq_some_iff] at hq
  obtain ⟨b, h1, h2⟩ := hq
  have hl : a < h.1.1 := by simpa using (List.getElem?_eq_some_iff.mp h1).1
  have hb : b = a := by
    have := (List.getElem?_eq_some_iff.mp h1).2
    simpa using this.symm
  subst hb
  exact ⟨h.1.2.1 b, by unfold zsh; rw [if_pos hl], h2.symm⟩
theorem zW_len : (zW B sp cA h).length = h.1.1 := by simp [zW]
theorem zW_D : va_D (zAr B) (zW B sp cA h) := by
  refine ⟨fun i j x y hi hj hxy => ?_, fun k q hk => ?_⟩
  · obtain ⟨q1, -, rfl⟩ := zW_some hi
    obtain ⟨q2, -, rfl⟩ := zW_some hj
    have : B + i = B + j := hxy
    omega
  · obtain ⟨q1, -, rfl⟩ := zW_some hk
    exact Nat.le_add_right B k
/-- one cell has changed -/
theorem zW_set {a k n : Nat} (hq : zsh h a = some (k, n)) (h1 : h'.1 = h.1) (ho : ∀ b, b ≠ a → ∀ k n, zE B sp cA h' b k n = zE B sp cA h b k n) : zW B sp cA h' = (zW B sp cA h).set a (B + a, zE B sp cA h' a k n) := by
  have hla := zsh_lt hq
  have hea := zsh_eq hq
  refine List.ext_getElem? fun i => ?_
  by_cases hi : i = a
  · subst hi
    rw [List.getElem?_set_self (by rw [zW_len]; exact hla)]
    simp [zW, h1, hla, hea]
  · rw [List.getElem?_set_ne (Ne.symm hi)]
    by_cases hl : i < h.1.1
    · simp [zW, h1, hl, ho i hi]
    · simp [zW, h1, hl]
/-- one cell more -/
theorem zW_new {k n : Nat} (ho : ∀ b, b < h.1.1 → ∀ k0 n0, zE B sp cA (znew h k n) b k0 n0 = zE B sp cA h b k0 n0) : zW B sp cA (znew h k n) = zW B sp cA h ++ [(B + h.1.1, zE B sp cA (znew h k n) h.1.1 k n)] := by
  unfold zW
  have e1 : (znew h k n).1.1 = h.1.1 + 1 := rfl
  rw [e1, List.range_succ, List.map_append]
  congr 1
  · refine List.map_congr_left fun a ha => ?_
    have hl : a < h.1.1 := List.mem_range.mp ha
    have e2 : (znew h k n).1.2.1 a = h.1.2.1 a := by simp [znew, Nat.ne_of_lt hl]
    rw [e2, ho a hl]
  · simp [znew]
theorem zfv_I {b a k ci f : Nat} {v : Int32} (hb : b ≠ a) : zfv (zsI h a k v) ci b f = zfv h ci b f := by simp [zfv, zsI, zup, hb]
theorem zE_sI {b a k kd n : Nat} {v : Int32} (hb : b ≠ a) : zE B sp cA (zsI h a k v) b kd n = zE B sp cA h b kd n := by
  have e : (fun j => (zsI h a k v).2.1 b j) = (fun j => h.2.1 b j) := by funext j; simp [zsI, zup, hb]
  have e2 : (zsI h a k v).2.1 b = h.2.1 b := e
  unfold zE
  simp only [zfv_I hb, e2]
  rfl
theorem zE_sR {b a k kd n : Nat} {v : Option Nat} (hb : b ≠ a) : zE B sp cA (zsR h a k v) b kd n = zE B sp cA h b kd n := by
  have e : ∀ j, (zsR h a k v).2.2.2.1 b j = h.2.2.2.1 b j := fun j => by simp [zsR, zup, hb]
  have e1 : ∀ ci f, zfv (zsR h a k v) ci b f = zfv h ci b f := fun ci f => by unfold zfv; rw [e]; rfl
  unfold zE
  simp only [e1, e]
  rfl
theorem zE_sL {b a k kd n : Nat} {v : Int64} (hb : b ≠ a) : zE B sp cA (zsL h a k v) b kd n = zE B sp cA h b kd n := by
  have e : (zsL h a k v).2.2.1 b = h.2.2.1 b := by funext j; simp [zsL, zup, hb]
  unfold zE
  simp only [e]
  rfl
theorem zE_sRow {b a kd n : Nat} {g : Nat → Int32} (hb : b ≠ a) : zE B sp cA (zsRow h a g) b kd n = zE B sp cA h b kd n := by
  have e2 : (zsRow h a g).2.1 b = h.2.1 b := by funext j; simp [zsRow, zrow, hb]
  have e1 : ∀ ci f, zfv (zsRow h a g) ci b f = zfv h ci b f := fun ci f => by unfold zfv; rw [e2]; rfl
  unfold zE
  simp only [e1, e2]
  rfl
theorem zE_new {b kd n k0 n0 : Nat} (hb : b < h.1.1) : zE B sp cA (znew h k0 n0) b kd n = zE B sp cA h b kd n := by
  have hb' : b ≠ h.1.1 := by omega
  have e2 : (znew h k0 n0).2.1 b = h.2.1 b := by funext j; simp [znew, zrow, hb']
  have e3 : (znew h k0 n0).2.2.1 b = h.2.2.1 b := by funext j; simp [znew, zrow, hb']
  have e4 : (znew h k0 n0).2.2.2.1 b = h.2.2.2.1 b := by funext j; simp [znew, zrow, hb']
  have e1 : ∀ ci f, zfv (znew h k0 n0) ci b f = zfv h ci b f := fun ci f => by unfold zfv; rw [e2, e4]
  unfold zE
  simp only [e1, e2, e3, e4]
theorem zcv_rf (r : Option Nat) : zcv B sp (.inr (.inr r)) = va_rf (r.map (zad B sp)) := rfl
theorem zcv_ref {a : Nat} (ha : a < 1000000) : zcv B sp (.inr (.inr (some a))) = .ref (B + a) := by
  show va_rf (some (zad B sp a)) = _
  rw [zad, if_pos ha]
  rfl
theorem zcat_cv (v : zV) : (zcv B sp v).category = zcat v := by
  match v with
  | .inl x => rfl
  | .inr (.inl x) => rfl
  | .inr (.inr none) => rfl
  | .inr (.inr (some a)) => rfl
theorem zwd_cv (vs : List zV) : ((vs.map (zcv B sp)).map fun v => v.category).sum = zwd vs := by
  rw [List.map_map]
  exact congrArg List.sum (List.map_congr_left fun v _ => zcat_cv v)
/-- locals -/
def zlv (B : Nat) (sp : Nat → Nat) (ls : zL) : List (Nat × Value) := ls.map (fun q => (q.1, zcv B sp q.2))
theorem zget_mem {ls : zL} {i : Nat} {v : zV} (hg : zget ls i = some v) : (i, v) ∈ ls := by
  induction ls with
  | nil => cases hg
  | cons q t ih =>
    unfold zget at hg
    split at hg
    · next e => cases hg; subst e; exact List.mem_cons_self
    · exact List.mem_cons_of_mem _ (ih hg)
theorem zget_at {ls : zL} {i n : Nat} {v : zV} {lA : Array Slot} (hl : lv_has lA n (zlv B sp ls)) (hg : zget ls i = some v) : lA[i]? = some (.val (zcv B sp v)) :=
  hl.2.2 (i, zcv B sp v) (List.mem_map.mpr ⟨(i, v), zget_mem hg, rfl⟩)
theorem zget_place {ls : zL} {i : Nat} {v : zV} (hg : zget ls i = some v) : ∃ k : Nat, (zlv B sp ls)[k]? = some (i, zcv B sp v) :=
  List.getElem?_of_mem (List.mem_map.mpr ⟨(i, v), zget_mem hg, rfl⟩)
theorem zset1_lv {ls : zL} {i : Nat} {v : zV} : (i, zcv B sp v) :: (zlv B sp ls).filter (fun q => !(q.1 == i) && !(q.1 + 1 == i && q.2.category == 2)) = zlv B sp (zset1 ls i v) := by
  show _ = (i, zcv B sp v) :: zlv B sp (ls.filter _)
  congr 1
  unfold zlv
  rw [List.filter_map]
  refine congrArg _ (List.filter_congr fun q _ => ?_)
  simp [zcat_cv]
theorem zset2_lv {ls : zL} {i : Nat} {v : zV} : (i, zcv B sp v) :: (zlv B sp ls).filter (fun q => !(q.1 == i) && (!(q.1 == i + 1) && !(q.1 + 1 == i && q.2.category == 2))) = zlv B sp (zset2 ls i v) := by
  show _ = (i, zcv B sp v) :: zlv B sp (ls.filter _)
  congr 1
  unfold zlv
  rw [List.filter_map]
  refine congrArg _ (List.filter_congr fun q _ => ?_)
  simp [zcat_cv]
theorem zargs_lv (vs : List zV) : ∀ i : Nat, lv_args i (vs.map (zcv B sp)) = zlv B sp (zargs i vs) := by
  induction vs with
  | nil => intro i; rfl
  | cons v vs ih =>
    intro i
    show (i, zcv B sp v) :: lv_args (if (zcv B sp v).category = 2 then i + 2 else i + 1) (vs.map (zcv B sp)) = (i, zcv B sp v) :: zlv B sp (zargs (if zcat v = 2 then i + 2 else i + 1) vs)
    rw [zcat_cv, ih]
end ZW
end Pk1
section Pk2
/-! the context of a method of the small machine, and the judgement at one of its states -/
def zws : List Cond := lw_tbl.filter goodWord
def zwsM (mi : zM) : List Cond := Cond.code mi.2.2.2.2.1 mi.1 mi.2.2.1 mi.2.2.2.1 :: zws
def zc (h : zH) : Nat := h.1.1 + h.2.2.2.2
def zt (h : zH) : Nat := h.1.2.2 + 6 * h.2.2.2.2
/-- a constant text: an object of String, its bytes -/
def zSf (sp : Nat → Nat) (A : Nat → Prop) (a : Nat) (bs : List Int32) (U : State) (H : Heap) : Prop := ∃ t : Nat, va_O "java/lang/String" (sp a) A U H ∧ va_OF "java/lang/String" "coder" "B" (.int 0) (sp a) A U H ∧ va_OF "java/lang/String" "value" "[B" (.ref t) (sp a) A U H ∧ va_T .byte t bs.length (fun j => .int (bs.getD j 0)) A U H
def zSg (B : Nat) (sp : Nat → Nat) (U : State) (H : Heap) : Prop :=
  (∀ (a : Nat) (bs : List Int32), zsc a = some bs → zSf sp (zAr B) a bs U H) ∧ va_Z "java/lang/String" "COMPACT_STRINGS" "Z" (.int 1) (zAr B) U H ∧ va_Zq "jdk/internal/util/Preconditions" "SIOOBE_FORMATTER" "Ljava/util/function/BiFunction;" (zAr B) U H ∧ va_Z "WhalePost" "CAN_CARRY" "[I" (.ref (sp 1000001)) (zAr B) U H ∧ va_T .int (sp 1000001) 4 (fun j => .int (zcc j)) (zAr B) U H
theorem zSg.kept {B : Nat} {sp : Nat → Nat} {U : State} {H H1 : Heap} (h : zSg B sp U H) (hq : ∀ a : Nat, a < H.size → ¬ zAr B a → H1[a]? = H[a]?) : zSg B sp U H1 :=
  ⟨fun a bs e => (by
    obtain ⟨t, q1, q2, q3, q4⟩ := h.1 a bs e
    exact ⟨t, q1.kept hq, q2.kept hq, q3.kept hq, q4.kept hq⟩), h.2.1.kept hq, h.2.2.1.kept hq, h.2.2.2.1.kept hq, h.2.2.2.2.kept hq⟩
theorem zSg.moved {B : Nat} {sp : Nat → Nat} {u U : State} {H : Heap} (hvm : u.vm.Alike U.vm) (h : zSg B sp u H) : zSg B sp U H :=
  ⟨fun a bs e => (by
    obtain ⟨t, q1, q2, q3, q4⟩ := h.1 a bs e
    exact ⟨t, va_O.moved hvm q1, va_OF.moved hvm q2, va_OF.moved hvm q3, va_T.moved hvm q4⟩), va_Z.moved hvm h.2.1, va_Zq.moved hvm h.2.2.1, va_Z.moved hvm h.2.2.2.1, va_T.moved hvm h.2.2.2.2⟩
def zCx (B : Nat) (sp : Nat → Nat) (cA : Nat → ClassId) (D : va_G) (U : State) : Prop :=
  va_K D vwCl (ztys cA) U ∧ (∀ q ∈ znm, va_Nw (.methodLinkNest (zRn q.1) q.2.1 q.2.2.1.2.2.2.2.1 q.2.2.2.1) U) ∧ (∀ q ∈ zsr, vk_R (zRn q.1) q.2.1 q.2.2.1 (sp q.2.2.2.1) U) ∧ (∀ k, 16 ≤ k → k ≤ 20 → va_AO (zRn (zrc k)) U) ∧ B ≤ U.heap.size ∧ zSg B sp U U.heap ∧ va_Nw (.fieldLinkNest "WhalePost$Sea" zgsk "WhalePost" "CAN_CARRY" "[I" "WhalePost") U
theorem zCx.warm {B : Nat} {sp : Nat → Nat} {cA : Nat → ClassId} {D : va_G} {s U : State} (h : zCx B sp cA D s) (hW : s.WarmedH U.vm) (hB : B ≤ U.heap.size) (hk : ∀ a : Nat, a < s.heap.size → ¬ zAr B a → U.heap[a]? = s.heap[a]?) : zCx B sp cA D U :=
  ⟨va_K.moved hW.alike h.1, fun q hq => va_Nw.warmM hW (h.2.1 q hq), fun q hq => vk_R.warm hW (h.2.2.1 q hq), fun k h1 h2 => va_AO.moved hW.alike (h.2.2.2.1 k h1 h2), hB, zSg.moved hW.alike (h.2.2.2.2.2.1.kept hk), va_Nw.warmF hW h.2.2.2.2.2.2⟩
def zX (p : Program) (s : State) (m : MethodId) (args : Array Value) (meth : Method) (c : Code) (B : Nat) (sp : Nat → Nat) (cA : Nat → ClassId) (D : va_G) (mi : zM) : Prop :=
  p.tables.exec = Jvm.exec ∧ c.code = mi.1 ∧ c.maxLocals = mi.2.2.1 ∧ s.vm.findClass (zRn mi.2.1) = some m.cls ∧ (∀ w ∈ zws, w.before args s = true) ∧ (mi.2.2.2.2.2 = true → meth.name = "<init>") ∧ zCx B sp cA D s
def zK (p : Program) (l : Launch) (e : Env) (R : Room) (s : State) (m : MethodId) (args : Array Value) (below : List Frame) (meth : Method) (c : Code) (Q : State → Prop) (B : Nat) (sp : Nat → Nat) (cA : Nat → ClassId) (D : va_G) (mi : zM) (c0 s0 : Nat) (g : zC) : Prop :=
  ∀ (H : Heap) (locs : List Loc) (lA : Array Slot) (cells slots : Nat), zRel B sp cA D g.2.2.2 H → va_S (zAr B) s.heap H locs → lv_has lA mi.2.2.1 (zlv B sp g.2.1) → c0 + cells = zc g.2.2.2 → s0 + slots = zt g.2.2.2 →
    W p l e R s m args below meth c H locs cells slots Q (F0 m g.1 lA (g.2.2.1.map (zcv B sp)))
section ZS
variable {p : Program} {l : Launch} {e : Env} {R : Room} {s : State} {m : MethodId} {args : Array Value} {below : List Frame} {meth : Method} {c : Code} {Q : State → Prop} {B : Nat} {sp : Nat → Nat} {cA : Nat → ClassId} {D : va_G} {mi : zM} {c0 s0 : Nat}
variable {pc len : Nat} {ls : zL} {st : List zV} {h : zH}
theorem zs_iconst {n : Int} (cx : zX p s m args meth c B sp cA D mi) (hd : decode mi.1 pc = .ok (.iconst n, 1)) (k : zK p l e R s m args below meth c Q B sp cA D mi c0 s0 (pc + 1, ls, .inl (Int32.ofInt n) :: st, h)) : zK p l e R s m args below meth c Q B sp cA D mi c0 s0 (pc, ls, st, h) :=
  fun H locs lA cells slots hR hS hl h1 h2 => lv_iconst cx.1 cx.2.1 hd rfl (k H locs lA cells slots hR hS hl h1 h2)
theorem zs_bipush {n : Int} (cx : zX p s m args meth c B sp cA D mi) (hd : decode mi.1 pc = .ok (.bipush n, 2)) (k : zK p l e R s m args below meth c Q B sp cA D mi c0 s0 (pc + 2, ls, .inl (Int8.ofInt n).toInt32 :: st, h)) : zK p l e R s m args below meth c Q B sp cA D mi c0 s0 (pc, ls, st, h) :=
  fun H locs lA cells slots hR hS hl h1 h2 => lv_bipush cx.1 cx.2.1 hd rfl (k H locs lA cells slots hR hS hl h1 h2)
theorem zs_sipush {n : Int} (cx : zX p s m args meth c B sp cA D mi) (hd : decode mi.1 pc = .ok (.sipush n, 3)) (k : zK p l e R s m args below meth c Q B sp cA D mi c0 s0 (pc + 3, ls, .inl (Int16.ofInt n).toInt32 :: st, h)) : zK p l e R s m args below meth c Q B sp cA D mi c0 s0 (pc, ls, st, h) :=
  fun H locs lA cells slots hR hS hl h1 h2 => lv_sipush cx.1 cx.2.1 hd rfl (k H locs lA cells slots hR hS hl h1 h2)
theorem zs_lconst {n : Fin 2} (cx : zX p s m args meth c B sp cA D mi) (hd : decode mi.1 pc = .ok (.lconst n, 1)) (k : zK p l e R s m args below meth c Q B sp cA D mi c0 s0 (pc + 1, ls, .inr (.inl (Int64.ofNat (n : Nat))) :: st, h)) : zK p l e R s m args below meth c Q B sp cA D mi c0 s0 (pc, ls, st, h) :=
  fun H locs lA cells slots hR hS hl h1 h2 => lv_lconst cx.1 cx.2.1 hd rfl (k H locs lA cells slots hR hS hl h1 h2)
/-- loads -/
theorem zs_load {i : Instr} {so j : Nat} {g : zC} (cx : zX p s m args meth c B sp cA D mi) (hd : decode mi.1 pc = .ok (i, len)) (hi : (i = .iload j ∧ len = 2 ∧ so = 0) ∨ (∃ f : Fin 4, i = .iload_n f ∧ (f : Nat) = j ∧ len = 1 ∧ so = 0) ∨ (i = .lload j ∧ len = 2 ∧ so = 1) ∨ (∃ f : Fin 4, i = .lload_n f ∧ (f : Nat) = j ∧ len = 1 ∧ so = 1) ∨ (i = .aload j ∧ len = 2 ∧ so = 2) ∨ (∃ f : Fin 4, i = .aload_n f ∧ (f : Nat) = j ∧ len = 1 ∧ so = 2))
    (hz : zload so j len pc ls st h = some (.inl g)) (k : zK p l e R s m args below meth c Q B sp cA D mi c0 s0 g) : zK p l e R s m args below meth c Q B sp cA D mi c0 s0 (pc, ls, st, h) := by
  intro H locs lA cells slots hR hS hl h1 h2
  unfold zload at hz
  split at hz
  · next x hg =>
    split at hz
    · next hso =>
      subst hso
      cases hz
      have k' := k H locs lA cells slots hR hS hl h1 h2
      have ha := zget_at hl hg
      rcases hi with ⟨rfl, rfl, -⟩ | ⟨f, rfl, rfl, rfl, -⟩ | ⟨-, -, q⟩ | ⟨f, -, -, -, q⟩ | ⟨-, -, q⟩ | ⟨f, -, -, -, q⟩
      · exact lv_iload cx.1 cx.2.1 hd ha k'
      · exact lv_iload_n cx.1 cx.2.1 hd rfl ha k'
      all_goals cases q
    · cases hz
  · next x hg =>
    split at hz
    · next hso =>
      subst hso
      cases hz
      have k' := k H locs lA cells slots hR hS hl h1 h2
      have ha := zget_at hl hg
      rcases hi with ⟨-, -, q⟩ | ⟨f, -, -, -, q⟩ | ⟨rfl, rfl, -⟩ | ⟨f, rfl, rfl, rfl, -⟩ | ⟨-, -, q⟩ | ⟨f, -, -, -, q⟩
      · cases q
      · cases q
      · exact lv_lload cx.1 cx.2.1 hd ha k'
      · exact lv_lload_n cx.1 cx.2.1 hd rfl ha k'
      all_goals cases q
    · cases hz
  · next x hg =>
    split at hz
    · next hso =>
      subst hso
      cases hz
      have k' := k H locs lA cells slots hR hS hl h1 h2
      have ha := zget_at hl hg
      rcases hi with ⟨-, -, q⟩ | ⟨f, -, -, -, q⟩ | ⟨-, -, q⟩ | ⟨f, -, -, -, q⟩ | ⟨rfl, rfl, -⟩ | ⟨f, rfl, rfl, rfl, -⟩
      · cases q
      · cases q
      · cases q
      · cases q
      · exact lv_aload cx.1 cx.2.1 hd ha k'
      · exact lv_aload_n cx.1 cx.2.1 hd rfl ha k'
    · cases hz
  · cases hz
/-- stores -/
theorem zs_store {i : Instr} {so j : Nat} {g : zC} (cx : zX p s m args meth c B sp cA D mi) (hd : decode mi.1 pc = .ok (i, len)) (hi : (i = .istore j ∧ len = 2 ∧ so = 0) ∨ (∃ f : Fin 4, i = .istore_n f ∧ (f : Nat) = j ∧ len = 1 ∧ so = 0) ∨ (i = .lstore j ∧ len = 2 ∧ so = 1) ∨ (∃ f : Fin 4, i = .lstore_n f ∧ (f : Nat) = j ∧ len = 1 ∧ so = 1) ∨ (i = .astore j ∧ len = 2 ∧ so = 2) ∨ (∃ f : Fin 4, i = .astore_n f ∧ (f : Nat) = j ∧ len = 1 ∧ so = 2))
    (hz : zstore mi so j len pc ls st h = some (.inl g)) (k : zK p l e R s m args below meth c Q B sp cA D mi c0 s0 g) : zK p l e R s m args below meth c Q B sp cA D mi c0 s0 (pc, ls, st, h) := by
  intro H locs lA cells slots hR hS hl h1 h2
  unfold zstore at hz
  split at hz
  · next x st' =>
    split at hz
    · next hso =>
      obtain ⟨rfl, hj⟩ := hso
      cases hz
      have k' := fun lA' hl' => k H locs lA' cells slots hR hS hl' h1 h2
      rcases hi with ⟨rfl, rfl, -⟩ | ⟨f, rfl, rfl, rfl, -⟩ | ⟨-, -, q⟩ | ⟨f, -, -, -, q⟩ | ⟨-, -, q⟩ | ⟨f, -, -, -, q⟩
      · exact lv_istore cx.1 cx.2.1 hd hl hj (zset1_lv (v := .inl x)) k'
      · exact lv_istore_n cx.1 cx.2.1 hd rfl hl hj (zset1_lv (v := .inl x)) k'
      all_goals cases q
    · cases hz
  · next x st' =>
    split at hz
    · next hso =>
      obtain ⟨rfl, hj⟩ := hso
      cases hz
      have k' := fun lA' hl' => k H locs lA' cells slots hR hS hl' h1 h2
      rcases hi with ⟨-, -, q⟩ | ⟨f, -, -, -, q⟩ | ⟨rfl, rfl, -⟩ | ⟨f, rfl, rfl, rfl, -⟩ | ⟨-, -, q⟩ | ⟨f, -, -, -, q⟩
      · cases q
      · cases q
      · exact lv_lstore cx.1 cx.2.1 hd hl hj (zset2_lv (v := .inr (.inl x))) k'
      · exact lv_lstore_n cx.1 cx.2.1 hd rfl hl hj (zset2_lv (v := .inr (.inl x))) k'
      all_goals cases q
    · cases hz
  · next x st' =>
    split at hz
    · next hso =>
      obtain ⟨rfl, hj⟩ := hso
      cases hz
      have k' := fun lA' hl' => k H locs lA' cells slots hR hS hl' h1 h2
      rcases hi with ⟨-, -, q⟩ | ⟨f, -, -, -, q⟩ | ⟨-, -, q⟩ | ⟨f, -, -, -, q⟩ | ⟨rfl, rfl, -⟩ | ⟨f, rfl, rfl, rfl, -⟩
      · cases q
      · cases q
      · cases q
      · cases q
      · exact lv_astore cx.1 cx.2.1 hd hl hj (zset1_lv (v := .inr (.inr (some x)))) k'
      · exact lv_astore_n cx.1 cx.2.1 hd rfl hl hj (zset1_lv (v := .inr (.inr (some x)))) k'
    · cases hz
  · cases hz
theorem zs_iinc {j : Nat} {n : Int} {x : Int32} (cx : zX p s m args meth c B sp cA D mi) (hd : decode mi.1 pc = .ok (.iinc j n, 3)) (hg : zget ls j = some (.inl x)) (hj : j < mi.2.2.1) (k : zK p l e R s m args below meth c Q B sp cA D mi c0 s0 (pc + 3, zset1 ls j (.inl (x + Int32.ofInt n)), st, h)) : zK p l e R s m args below meth c Q B sp cA D mi c0 s0 (pc, ls, st, h) := by
  intro H locs lA cells slots hR hS hl h1 h2
  obtain ⟨q, hq⟩ := zget_place (B := B) (sp := sp) hg
  exact lv_iinc cx.1 cx.2.1 hd hl hq rfl hj (zset1_lv (v := .inl (x + Int32.ofInt n))) (fun lA' hl' => k H locs lA' cells slots hR hS hl' h1 h2)
/-- two ints to one -/
theorem zs_bin {i : Instr} {x y v : Int32} (cx : zX p s m args meth c B sp cA D mi) (hd : decode mi.1 pc = .ok (i, 1)) (hz : zbin i x y = some v) (k : zK p l e R s m args below meth c Q B sp cA D mi c0 s0 (pc + 1, ls, .inl v :: st, h)) : zK p l e R s m args below meth c Q B sp cA D mi c0 s0 (pc, ls, .inl y :: .inl x :: st, h) := by
  intro H locs lA cells slots hR hS hl h1 h2
  have k' := k H locs lA cells slots hR hS hl h1 h2
  unfold zbin at hz
  split at hz
  · cases hz; exact lv_iadd cx.1 cx.2.1 hd k'
  · cases hz; exact lv_isub cx.1 cx.2.1 hd k'
  · cases hz; exact lv_imul cx.1 cx.2.1 hd k'
  · cases hz; exact lv_iand cx.1 cx.2.1 hd k'
  · cases hz; exact lv_ior cx.1 cx.2.1 hd k'
  · cases hz; exact lv_ixor cx.1 cx.2.1 hd k'
  · cases hz; exact lv_ishl cx.1 cx.2.1 hd k'
  · cases hz; exact lv_ishr cx.1 cx.2.1 hd k'
  · cases hz; exact lv_iushr cx.1 cx.2.1 hd rfl k'
  · split at hz
    · cases hz
    · next hy => cases hz; exact lv_idiv cx.1 cx.2.1 hd hy k'
  · split at hz
    · cases hz
    · next hy => cases hz; exact lv_irem cx.1 cx.2.1 hd hy k'
  · cases hz
theorem zs_un {i : Instr} {x : Int32} {v : zV} (cx : zX p s m args meth c B sp cA D mi) (hd : decode mi.1 pc = .ok (i, 1)) (hz : zun i x = some v) (k : zK p l e R s m args below meth c Q B sp cA D mi c0 s0 (pc + 1, ls, v :: st, h)) : zK p l e R s m args below meth c Q B sp cA D mi c0 s0 (pc, ls, .inl x :: st, h) := by
  intro H locs lA cells slots hR hS hl h1 h2
  have k' := k H locs lA cells slots hR hS hl h1 h2
  unfold zun at hz
  split at hz
  · cases hz; exact lv_ineg cx.1 cx.2.1 hd k'
  · cases hz; exact lv_i2b cx.1 cx.2.1 hd rfl k'
  · cases hz; exact lv_i2c cx.1 cx.2.1 hd rfl k'
  · cases hz; exact lv_i2l cx.1 cx.2.1 hd rfl k'
  · cases hz
theorem zs_lbin {i : Instr} {x y : Int64} {v : zV} (cx : zX p s m args meth c B sp cA D mi) (hd : decode mi.1 pc = .ok (i, 1)) (hz : zlbin i x y = some v) (k : zK p l e R s m args below meth c Q B sp cA D mi c0 s0 (pc + 1, ls, v :: st, h)) : zK p l e R s m args below meth c Q B sp cA D mi c0 s0 (pc, ls, .inr (.inl y) :: .inr (.inl x) :: st, h) := by
  intro H locs lA cells slots hR hS hl h1 h2
  have k' := k H locs lA cells slots hR hS hl h1 h2
  unfold zlbin at hz
  split at hz
  · cases hz; exact lv_lor cx.1 cx.2.1 hd k'
  · cases hz; exact W.lcmp cx.1 cx.2.1 hd k'
  · split at hz
    · cases hz
    · next hy => cases hz; exact lv_ldiv cx.1 cx.2.1 hd hy k'
  · split at hz
    · cases hz
    · next hy => cases hz; exact lv_lrem cx.1 cx.2.1 hd hy k'
  · cases hz
theorem zs_lshl {x : Int64} {y : Int32} (cx : zX p s m args meth c B sp cA D mi) (hd : decode mi.1 pc = .ok (.lshl, 1)) (k : zK p l e R s m args below meth c Q B sp cA D mi c0 s0 (pc + 1, ls, .inr (.inl (x <<< (y.toInt64 &&& 63))) :: st, h)) : zK p l e R s m args below meth c Q B sp cA D mi c0 s0 (pc, ls, .inl y :: .inr (.inl x) :: st, h) :=
  fun H locs lA cells slots hR hS hl h1 h2 => lv_lshl cx.1 cx.2.1 hd rfl (k H locs lA cells slots hR hS hl h1 h2)
/-- jumps -/
theorem zjump_at {off : Int} {g : zC} (hz : zjump pc off ls st h = some (.inl g)) : (pc : Int) + off = ((g.1 : Nat) : Int) ∧ g = (g.1, ls, st, h) := by
  unfold zjump at hz
  split at hz
  · next h0 =>
    cases hz
    exact ⟨(Int.toNat_of_nonneg h0).symm, rfl⟩
  · cases hz
theorem zs_goto {off : Int} {g : zC} (cx : zX p s m args meth c B sp cA D mi) (hd : decode mi.1 pc = .ok (.goto off, 3)) (hz : zjump pc off ls st h = some (.inl g)) (k : zK p l e R s m args below meth c Q B sp cA D mi c0 s0 g) : zK p l e R s m args below meth c Q B sp cA D mi c0 s0 (pc, ls, st, h) := by
  obtain ⟨e1, e2⟩ := zjump_at hz
  rw [e2] at k
  exact fun H locs lA cells slots hR hS hl h1 h2 => lv_goto cx.1 cx.2.1 hd e1 (k H locs lA cells slots hR hS hl h1 h2)
theorem zs_if {cd : ClassFile.Cond} {off : Int} {x : Int32} {g : zC} (cx : zX p s m args meth c B sp cA D mi) (hd : decode mi.1 pc = .ok (.ifCond cd off, 3)) (hz : zbr (zcond cd x 0) pc 3 off ls st h = some (.inl g)) (k : zK p l e R s m args below meth c Q B sp cA D mi c0 s0 g) : zK p l e R s m args below meth c Q B sp cA D mi c0 s0 (pc, ls, .inl x :: st, h) := by
  intro H locs lA cells slots hR hS hl h1 h2
  unfold zbr at hz
  split at hz
  · next h0 =>
    have e1 : (pc : Int) + off = (((pc : Int) + off).toNat : Int) := (Int.toNat_of_nonneg h0).symm
    by_cases hc : zcond cd x 0 = true
    · rw [if_pos hc] at hz
      cases hz
      have k' := k H locs lA cells slots hR hS hl h1 h2
      cases cd <;> simp only [zcond, decide_eq_true_eq] at hc
      · exact lv_if_eq cx.1 cx.2.1 hd e1 (fun _ => k') (fun q => absurd hc q)
      · exact lv_if_ne cx.1 cx.2.1 hd e1 (fun _ => k') (fun q => absurd q hc)
      · exact lv_if_lt cx.1 cx.2.1 hd e1 (fun _ => k') (fun q => absurd hc q)
      · exact lv_if_ge cx.1 cx.2.1 hd e1 (fun _ => k') (fun q => absurd hc q)
      · exact lv_if_gt cx.1 cx.2.1 hd e1 (fun _ => k') (fun q => absurd hc q)
      · exact lv_if_le cx.1 cx.2.1 hd e1 (fun _ => k') (fun q => absurd hc q)
    · rw [if_neg hc] at hz
      cases hz
      have k' := k H locs lA cells slots hR hS hl h1 h2
      cases cd <;> simp only [zcond, decide_eq_true_eq] at hc
      · exact lv_if_eq cx.1 cx.2.1 hd e1 (fun q => absurd q hc) (fun _ => k')
      · exact lv_if_ne cx.1 cx.2.1 hd e1 (fun q => absurd q hc) (fun _ => k')
      · exact lv_if_lt cx.1 cx.2.1 hd e1 (fun q => absurd q hc) (fun _ => k')
      · exact lv_if_ge cx.1 cx.2.1 hd e1 (fun q => absurd q hc) (fun _ => k')
      · exact lv_if_gt cx.1 cx.2.1 hd e1 (fun q => absurd q hc) (fun _ => k')
      · exact lv_if_le cx.1 cx.2.1 hd e1 (fun q => absurd q hc) (fun _ => k')
  · cases hz
theorem zs_icmp {cd : ClassFile.Cond} {off : Int} {x y : Int32} {g : zC} (cx : zX p s m args meth c B sp cA D mi) (hd : decode mi.1 pc = .ok (.if_icmp cd off, 3)) (hz : zbr (zcond cd x y) pc 3 off ls st h = some (.inl g)) (k : zK p l e R s m args below meth c Q B sp cA D mi c0 s0 g) : zK p l e R s m args below meth c Q B sp cA D mi c0 s0 (pc, ls, .inl y :: .inl x :: st, h) := by
  intro H locs lA cells slots hR hS hl h1 h2
  unfold zbr at hz
  split at hz
  · next h0 =>
    have e1 : (pc : Int) + off = (((pc : Int) + off).toNat : Int) := (Int.toNat_of_nonneg h0).symm
    by_cases hc : zcond cd x y = true
    · rw [if_pos hc] at hz
      cases hz
      have k' := k H locs lA cells slots hR hS hl h1 h2
      cases cd <;> simp only [zcond, decide_eq_true_eq] at hc
      · exact lv_icmp_eq cx.1 cx.2.1 hd e1 (fun _ => k') (fun q => absurd hc q)
      · exact lv_icmp_ne cx.1 cx.2.1 hd e1 (fun _ => k') (fun q => absurd q hc)
      · exact lv_icmp_lt cx.1 cx.2.1 hd e1 (fun _ => k') (fun q => absurd hc q)
      · exact lv_icmp_ge cx.1 cx.2.1 hd e1 (fun _ => k') (fun q => absurd hc q)
      · exact lv_icmp_gt cx.1 cx.2.1 hd e1 (fun _ => k') (fun q => absurd hc q)
      · exact lv_icmp_le cx.1 cx.2.1 hd e1 (fun _ => k') (fun q => absurd hc q)
    · rw [if_neg hc] at hz
      cases hz
      have k' := k H locs lA cells slots hR hS hl h1 h2
      cases cd <;> simp only [zcond, decide_eq_true_eq] at hc
      · exact lv_icmp_eq cx.1 cx.2.1 hd e1 (fun q => absurd q hc) (fun _ => k')
      · exact lv_icmp_ne cx.1 cx.2.1 hd e1 (fun q => absurd q hc) (fun _ => k')
      · exact lv_icmp_lt cx.1 cx.2.1 hd e1 (fun q => absurd q hc) (fun _ => k')
      · exact lv_icmp_ge cx.1 cx.2.1 hd e1 (fun q => absurd q hc) (fun _ => k')
      · exact lv_icmp_gt cx.1 cx.2.1 hd e1 (fun q => absurd q hc) (fun _ => k')
      · exact lv_icmp_le cx.1 cx.2.1 hd e1 (fun q => absurd q hc) (fun _ => k')
  · cases hz
theorem zs_switch {d lo hi : Int} {offs : Array Int} {x : Int32} {g : zC} (cx : zX p s m args meth c B sp cA D mi) (hd : decode mi.1 pc = .ok (.tableswitch d lo hi offs, len)) (hz : (if x.toInt < lo ∨ hi < x.toInt then zjump pc d ls st h else (match offs[(x.toInt - lo).toNat]? with
      | some off => zjump pc off ls st h
      | none => none)) = some (.inl g)) (k : zK p l e R s m args below meth c Q B sp cA D mi c0 s0 g) : zK p l e R s m args below meth c Q B sp cA D mi c0 s0 (pc, ls, .inl x :: st, h) := by
  intro H locs lA cells slots hR hS hl h1 h2
  split at hz
  · next ho =>
    obtain ⟨e1, e2⟩ := zjump_at hz
    rw [e2] at k
    exact lv_tableOut cx.1 cx.2.1 hd ho e1 (k H locs lA cells slots hR hS hl h1 h2)
  · next ho =>
    split at hz
    · next off hoff =>
      obtain ⟨e1, e2⟩ := zjump_at hz
      rw [e2] at k
      exact lv_tableIn cx.1 cx.2.1 hd (fun q => ho (Or.inl q)) (fun q => ho (Or.inr q)) hoff e1 (k H locs lA cells slots hR hS hl h1 h2)
    · cases hz
theorem zs_dup {v : zV} (cx : zX p s m args meth c B sp cA D mi) (hd : decode mi.1 pc = .ok (.dup, 1)) (hv : zcat v = 1) (k : zK p l e R s m args below meth c Q B sp cA D mi c0 s0 (pc + 1, ls, v :: v :: st, h)) : zK p l e R s m args below meth c Q B sp cA D mi c0 s0 (pc, ls, v :: st, h) :=
  fun H locs lA cells slots hR hS hl h1 h2 => lv_dup cx.1 cx.2.1 hd (by rw [zcat_cv]; exact hv) (k H locs lA cells slots hR hS hl h1 h2)
theorem zs_dup2 {v w : zV} (cx : zX p s m args meth c B sp cA D mi) (hd : decode mi.1 pc = .ok (.dup2, 1)) (hv : zcat v = 1) (hw : zcat w = 1) (k : zK p l e R s m args below meth c Q B sp cA D mi c0 s0 (pc + 1, ls, v :: w :: v :: w :: st, h)) : zK p l e R s m args below meth c Q B sp cA D mi c0 s0 (pc, ls, v :: w :: st, h) :=
  fun H locs lA cells slots hR hS hl h1 h2 => lv_dup2_11 cx.1 cx.2.1 hd (by rw [zcat_cv]; exact hv) (by rw [zcat_cv]; exact hw) (k H locs lA cells slots hR hS hl h1 h2)
theorem zs_pop {v : zV} (cx : zX p s m args meth c B sp cA D mi) (hd : decode mi.1 pc = .ok (.pop, 1)) (hv : zcat v = 1) (k : zK p l e R s m args below meth c Q B sp cA D mi c0 s0 (pc + 1, ls, st, h)) : zK p l e R s m args below meth c Q B sp cA D mi c0 s0 (pc, ls, v :: st, h) :=
  fun H locs lA cells slots hR hS hl h1 h2 => lv_pop cx.1 cx.2.1 hd (by rw [zcat_cv]; exact hv) (k H locs lA cells slots hR hS hl h1 h2)
theorem zs_pop2 {v : zV} (cx : zX p s m args meth c B sp cA D mi) (hd : decode mi.1 pc = .ok (.pop2, 1)) (hv : zcat v = 2) (k : zK p l e R s m args below meth c Q B sp cA D mi c0 s0 (pc + 1, ls, st, h)) : zK p l e R s m args below meth c Q B sp cA D mi c0 s0 (pc, ls, v :: st, h) :=
  fun H locs lA cells slots hR hS hl h1 h2 => lv_pop2_2 cx.1 cx.2.1 hd (by rw [zcat_cv]; exact hv) (k H locs lA cells slots hR hS hl h1 h2)
end ZS
end Pk2
