theorem nI_or (a b : Nat) : nI a ||| nI b = nI (a ||| b) := by
  refine Int32.toBitVec_inj.mp ?_
  rw [Int32.toBitVec_or]
  exact BitVec.ofNat_or.symm
theorem nI_m4 {q : Nat} (h : q < 1000) : nI 4 * nI q = nI (4 * q) := by
  refine Int32.toInt_inj.mp ?_
  rw [Int32.toInt_mul, nI_toInt (by omega), nI_toInt (by omega), nI_toInt (by omega)]
  rw [bmod_fit (by omega) (by omega)]
  omega
theorem shl7 : ∀ x : Fin 7, (1 : Int32) <<< (nI x.val &&& 31) = nI (2 ^ x.val) := by decide
section Qx
variable {d : Nat} {h : zH} {jj mask : Int32} {n b : Nat} {Q : Option zV → zH → Prop}
theorem k_closed {k : Int32} (s0 : zsh h 196 = some (12, 39)) (s3 : zsh h 201 = some (14, 76)) (r17 : h.2.2.2.1 196 17 = some 201) : zCi (d + 1) mX12_isClosed [.inr (.inr (some 196)), .inl k] h (fun y h' => y = hBit (h.2.1 201 1) k ∧ h' = h) := by
  show zEx none (d + 1) mX12_isClosed (0, [(0, .inr (.inr (some 196))), (1, .inl k)], [], h) _
  refine ex_aload_n (pc' := 1) dX12_isClosed_0 rfl rfl ?_
  refine ex_getR (pc' := 4) (n := 39) (r := 201) dX12_isClosed_1 fl_12_26 s0 (by decide) r17 rfl ?_
  refine ex_iconst (v := 1) (pc' := 5) dX12_isClosed_4 (by decide) rfl ?_
  refine ex_iald (pc' := 6) (n := 76) (v := h.2.1 201 1) dX12_isClosed_5 s3 (by decide) rfl rfl ?_
  refine ex_iload_n (pc' := 7) dX12_isClosed_6 rfl rfl ?_
  refine en_callsI (pc' := 10) (v := hBit (h.2.1 201 1) k) (h2 := h) (vs := [.inl (h.2.1 201 1), .inl k]) (rest := []) dX12_isClosed_7 ml_12_298 (Or.inl rfl) ⟨zble rfl, zble rfl⟩ rfl rfl (zble rfl) rfl k_hasBit ?_
  refine ex_iretI dX12_isClosed_10 rfl ?_ ⟨rfl, rfl⟩
  unfold hBit
  split <;> decide
end Qx
