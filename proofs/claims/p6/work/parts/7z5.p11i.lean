section Qx
variable {y : Nat → Int32} {n c d N p : Nat} {h h' : zH} {A : pA}
theorem C_clear (sc : zsh h c = some (4, 15)) : zPa d mX4_clear [.inr (.inr (some c))] h (fun v h' => v = none ∧ h' = clr h c) := by
  intro N
  show zPn N none d mX4_clear (0, [(0, .inr (.inr (some c)))], [], h) _
  refine pa_aload_n (pc' := 1) dX4_clear_0 rfl rfl ?_
  refine pa_iconst (v := 0) (pc' := 2) dX4_clear_1 (by decide) rfl ?_
  refine pa_putI (pc' := 5) (n := 15) dX4_clear_2 fl_4_46 sc (Or.inl rfl) (Or.inl rfl) rfl ?_
  refine pa_aload_n (pc' := 6) dX4_clear_5 rfl rfl ?_
  refine pa_iconst (v := 0) (pc' := 7) dX4_clear_6 (by decide) rfl ?_
  refine pa_putI (pc' := 10) (n := 15) dX4_clear_7 fl_4_50 sc (Or.inl rfl) (Or.inl rfl) rfl ?_
  refine pa_aload_n (pc' := 11) dX4_clear_10 rfl rfl ?_
  refine pa_iconst (v := 0) (pc' := 12) dX4_clear_11 (by decide) rfl ?_
  refine pa_putI (pc' := 15) (n := 15) dX4_clear_12 fl_4_53 sc (Or.inl rfl) (Or.inl rfl) rfl ?_
  refine pa_aload_n (pc' := 16) dX4_clear_15 rfl rfl ?_
  refine pa_iconst (v := 0) (pc' := 17) dX4_clear_16 (by decide) rfl ?_
  refine pa_putI (pc' := 20) (n := 15) dX4_clear_17 fl_4_56 sc (Or.inl rfl) (Or.inl rfl) rfl ?_
  refine pa_aload_n (pc' := 21) dX4_clear_20 rfl rfl ?_
  refine pa_iconst (v := 0) (pc' := 22) dX4_clear_21 (by decide) rfl ?_
  refine pa_putI (pc' := 25) (n := 15) dX4_clear_22 fl_4_59 sc (Or.inl rfl) (Or.inl rfl) rfl ?_
  refine pa_aload_n (pc' := 26) dX4_clear_25 rfl rfl ?_
  refine pa_iconst (v := 0) (pc' := 27) dX4_clear_26 (by decide) rfl ?_
  refine pa_putI (pc' := 30) (n := 15) dX4_clear_27 fl_4_62 sc (Or.inl rfl) (Or.inl rfl) rfl ?_
  refine pa_aload_n (pc' := 31) dX4_clear_30 rfl rfl ?_
  refine pa_iconst (v := 0) (pc' := 32) dX4_clear_31 (by decide) rfl ?_
  refine pa_putI (pc' := 35) (n := 15) dX4_clear_32 fl_4_65 sc (Or.inl rfl) (Or.inl rfl) rfl ?_
  refine pa_aload_n (pc' := 36) dX4_clear_35 rfl rfl ?_
  refine pa_iconst (v := 0) (pc' := 37) dX4_clear_36 (by decide) rfl ?_
  refine pa_putI (pc' := 40) (n := 15) dX4_clear_37 fl_4_68 sc (Or.inl rfl) (Or.inl rfl) rfl ?_
  refine pa_aload_n (pc' := 41) dX4_clear_40 rfl rfl ?_
  refine pa_iconst (v := 0) (pc' := 42) dX4_clear_41 (by decide) rfl ?_
  refine pa_putI (pc' := 45) (n := 15) dX4_clear_42 fl_4_71 sc (Or.inl rfl) (Or.inl rfl) rfl ?_
  exact pa_vret dX4_clear_45 rfl ⟨rfl, rfl⟩
end Qx
