theorem k_copy {d : Nat} {h : zH} {f g nf ng a b n : Nat} (sf : zsh h f = some (14, nf)) (sg : zsh h g = some (14, ng)) (hne : f ≠ g) (ha : a + n ≤ nf) (hb : b + n ≤ ng) (hn : nf < 100000) (hn2 : ng < 100000) : zCv d mX12_copy [.inr (.inr (some f)), .inl (nI a), .inr (.inr (some g)), .inl (nI b), .inl (nI n)] h (fun h' => h' = cpyH h f a g b n) := by
  show zEx none d mX12_copy (0, [(0, .inr (.inr (some f))), (1, .inl (nI a)), (2, .inr (.inr (some g))), (3, .inl (nI b)), (4, .inl (nI n))], [], h) _
  refine ex_iconst (v := nI 0) (pc' := 1) dX12_copy_0 rfl rfl ?_
  refine ex_istore (pc' := 3) (ls' := [(5, .inl (nI 0)), (0, .inr (.inr (some f))), (1, .inl (nI a)), (2, .inr (.inr (some g))), (3, .inl (nI b)), (4, .inl (nI n))]) dX12_copy_1 (by decide) rfl rfl ?_
  have := lp_copy (d := d) (h := h) sf sg hne ha hb hn hn2 n 0 (by omega)
  rw [cpyH_0] at this
  exact this
def cpyChk (w : aWd) (f g nf ng : Nat) (A B N : aI) (lo hi : Nat) : Bool :=
  aNoC w g && (!(Nat.beq f g) && (!(Nat.beq g 196) && (Nat.blt nf 100000 && (Nat.blt ng 100000 &&
  (aEn A).all (fun a => (aEn B).all (fun b => (aEn N).all (fun n => ile 0 a && (ile 0 b && (ile 0 n && (Nat.ble (a.toNat + n.toNat) nf && (Nat.ble (b.toNat + n.toNat) ng && (Nat.ble lo b.toNat && (Nat.ble (b.toNat + n.toNat) hi &&
    (List.range n.toNat).all (fun j => aLe (gSeg (w.2.1 f) (a.toNat + j)) (gSeg (w.2.1 g) (b.toNat + j)))))))))))))))) 
