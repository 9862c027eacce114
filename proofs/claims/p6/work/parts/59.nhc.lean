section Qx
variable {d : Nat} {h : zH} {jj mask : Int32} {n b : Nat} {Q : Option zV → zH → Prop}
theorem ld_out (s0 : zsh h 196 = some (12, 39)) (s1 : zsh h 199 = some (14, 363)) (s3 : zsh h 201 = some (14, 76)) (r15 : h.2.2.2.1 196 15 = some 199) (r17 : h.2.2.2.1 196 17 = some 201) (hn : h.2.1 199 5 = nI n) (hn12 : n ≤ 12)
    (hx : ∀ q : Nat, q < 12 → ∃ x : Nat, x < 7 ∧ h.2.1 199 (59 + 4 * q) = nI x) (hy : ∀ q : Nat, q < 12 → ∃ x : Nat, x < 7 ∧ h.2.1 199 (60 + 4 * q) = nI x) (hQ : ∀ x : Int32, (x = 0 ∨ x = 1) → Q (some (.inl x)) h) :
    ∀ (N b a : Nat) (ls : zL), 128 - b ≤ N → b ≤ a → a < 128 → zget ls 0 = some (.inr (.inr (some 196))) → zget ls 2 = some (.inl jj) → zget ls 3 = some (.inl mask) → zget ls 4 = some (.inl (nI a)) → zget ls 5 = some (.inl (nI b)) → zEx none (d + 2) mX12_doLead (8, ls, [], h) Q := by
  intro N
  induction N with
  | zero => intro b a ls h1 h2 h3; omega
  | succ N ih =>
    intro b a ls hN hba ha hl0 hl2 hl3 hl4 hl5
    refine ex_iload (pc' := 10) dX12_doLead_8 hl5 rfl ?_
    refine ex_iload (pc' := 12) dX12_doLead_10 hl4 rfl ?_
    refine ex_icmp (pc' := 115) (pc2 := 15) dX12_doLead_12 (by decide) rfl (fun c => ?_) (fun c => ?_)
    · refine ex_iload (pc' := 117) dX12_doLead_115 hl4 rfl ?_
      refine ex_iload_n (pc' := 118) dX12_doLead_117 hl2 rfl ?_
      refine en_callsI (pc' := 121) (v := hBit (nI a) jj) (h2 := h) (vs := [.inl (nI a), .inl jj]) (rest := []) dX12_doLead_118 ml_12_298 (Or.inl rfl) ⟨zble rfl, zble rfl⟩ rfl rfl (zble rfl) rfl k_hasBit ?_
      have hb : hBit (nI a) jj = 0 ∨ hBit (nI a) jj = 1 := by unfold hBit; split; exact .inr rfl; exact .inl rfl
      exact ex_iret dX12_doLead_121 rfl (by rcases hb with e | e <;> rw [e] <;> decide) (hQ _ hb)
    · have c : ¬ nI b = nI a := by simpa [zcond] using c
      have hlt : b < a := by
        rcases Nat.lt_or_ge b a with z | z
        · exact z
        · exact absurd (congrArg nI (show b = a by omega)) c
      refine ex_iload (pc' := 17) dX12_doLead_15 hl4 rfl ?_
      refine ex_istore (pc' := 19) dX12_doLead_17 (by decide) rfl rfl ?_
      refine ex_iconst (v := nI 0) (pc' := 20) dX12_doLead_19 (by decide) rfl ?_
      refine ex_istore (pc' := 22) dX12_doLead_20 (by decide) rfl rfl ?_
      refine ld_in (n := n) (b := a) (jj := jj) (mask := mask) s0 s1 s3 r15 r17 hn hn12 hx hy (fun a' ls' h1 h2 k0 k2 k3 k4 k5 => ?_) n 0 a _ (by omega) (Nat.le_refl _) ha ?_ ?_ ?_ ?_ ?_ zget_s1e
      · refine ex_goto (pc' := 8) dX12_doLead_112 (by decide) ?_
        exact ih a a' ls' (by omega) h1 h2 k0 k2 k3 k4 k5
      · exact zget_s1 (zget_s1 hl0 (by decide) (by simp [zcat])) (by decide) (by simp [zcat])
      · exact zget_s1 (zget_s1 hl2 (by decide) (by simp [zcat])) (by decide) (by simp [zcat])
      · exact zget_s1 (zget_s1 hl3 (by decide) (by simp [zcat])) (by decide) (by simp [zcat])
      · exact zget_s1 (zget_s1 hl4 (by decide) (by simp [zcat])) (by decide) (by simp [zcat])
      · exact zget_s1 zget_s1e (by decide) (by simp [zcat])
end Qx
