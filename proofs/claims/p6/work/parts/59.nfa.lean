def cpRM (w : aWd) : Bool :=
  (List.range 363).all (fun j => aLe (gSeg (w.2.1 200) j) (gSeg (w.2.1 199) j)) &&
  w.2.2.2.all (fun i => (!(Nat.beq i.2.1.1 199) && i.1.all (fun c => !(Nat.beq c.1.1 199)))
    || ((Nat.beq i.2.1.1 199 && (Nat.blt i.2.1.2 363 && w.2.2.2.any (fun k => Nat.beq k.2.1.1 200 && (Nat.beq k.2.1.2 i.2.1.2 && (aLe k.2.2 i.2.2 && k.1.all (fun e => Nat.beq e.1.1 200 && i.1.any (fun c => Nat.beq c.1.1 199 && (Nat.beq c.1.2 e.1.2 && (Nat.blt c.1.2 363 && aLe c.2 e.2)))))))))
    || (Nat.beq i.2.1.1 199 && (Nat.blt i.2.1.2 363 && [((200, 0), ([(2, 4, 1)] : aI)), ((200, 4), [(1, 7, 1)])].any (fun p => Nat.beq p.1.1 200 && (Nat.beq p.1.2 i.2.1.2 && aLe p.2 i.2.2))))))
theorem cpRM_wd : cpRM wd = true := by decide +kernel
def cpRChk (pre tells : List ((Nat × Nat) × aI)) : Bool :=
  pre.any (fun p => Nat.beq p.1.1 200 && (Nat.beq p.1.2 0 && aLe p.2 [(2, 4, 1)])) && (pre.any (fun p => Nat.beq p.1.1 200 && (Nat.beq p.1.2 4 && aLe p.2 [(1, 7, 1)]))
  && tells.all (fun t => Nat.beq t.1.1 199 && (Nat.blt t.1.2 363 && pre.any (fun p => Nat.beq p.1.1 200 && (Nat.beq p.1.2 t.1.2 && aLe p.2 t.2)))))
