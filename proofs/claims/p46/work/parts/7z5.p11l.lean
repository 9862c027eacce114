section Qx
variable {y : Nat → Int32} {n c d N p : Nat} {h h' : zH} {A : pA}
theorem C_text (hc : cc2 c) (h1 : h.1 = hh_487.1) (h2 : ∀ a k b, wd.2.2.1 a k = some b → h.2.2.2.1 a k = some b) (hy : h.2.1 1 = y) (hn : n ≤ 1000) : zPa (d + 1) mX5_readPost [.inr (.inr (some 82)), .inl (nI n), .inr (.inr (some c))] h (txR c (sText y n (n + 1) pA0 0)) := by
  intro N
  have zs : ∀ {g : zH} {a : Nat} {q : Option (Nat × Nat)}, g.1 = hh_487.1 → zsh hh_487 a = q → zsh g a = q := fun e1 e2 => by unfold zsh; rw [e1]; exact e2
  have s82 := zs h1 sh_82
  have s1 := zs h1 sh_1
  have sc := zs h1 (pc_sh hc).1
  have hcc : c = 2 ∨ c = 42 := hc
  have r82_0 : (zsR h 82 6 (some c)).2.2.2.1 82 0 = some 1 := by
    show zup h.2.2.2.1 82 6 (some c) 82 0 = some 1
    unfold zup
    rw [if_pos rfl, if_neg (by decide)]
    exact h2 _ _ _ rf_82_0
  have r82_6 : (zsR h 82 6 (some c)).2.2.2.1 82 6 = some c := by
    show zup h.2.2.2.1 82 6 (some c) 82 6 = some c
    unfold zup
    rw [if_pos rfl, if_pos rfl]
  show zPn N none (d + 1) mX5_readPost (0, [(0, .inr (.inr (some 82))), (1, .inl (nI n)), (2, .inr (.inr (some c)))], [], h) _
  refine pa_aload_n (pc' := 1) dX5_readPost_0 rfl rfl ?_
  refine pa_aload_n (pc' := 2) dX5_readPost_1 rfl rfl ?_
  refine pa_putR (pc' := 5) (n := 13) (v := some c) dX5_readPost_2 fl_5_51 s82 (Or.inl rfl) rfl rfl ?_
  refine pa_aload_n (pc' := 6) dX5_readPost_5 rfl rfl ?_
  refine pa_getR (pc' := 9) (n := 13) (r := c) dX5_readPost_6 fl_5_51 s82 (by decide) r82_6 rfl ?_
  refine pa_callv (pc' := 12) (vs := []) (rest := []) dX5_readPost_9 ml_5_55 (by decide) rfl rfl rfl (fun d' _ => C_clear (h := zsR h 82 6 (some c)) sc) (fun r g1 hq => ?_)
  obtain ⟨er, eg⟩ := hq
  subst er; subst eg
  show zPn N none (d + 1) mX5_readPost (12, [(0, .inr (.inr (some 82))), (1, .inl (nI n)), (2, .inr (.inr (some c)))], [], clr (zsR h 82 6 (some c)) c) _
  have gh1 : (clr (zsR h 82 6 (some c)) c).1 = hh_487.1 := clr_1.trans h1
  have gr0 : (clr (zsR h 82 6 (some c)) c).2.2.2.1 82 0 = some 1 := by rw [clr_r]; exact r82_0
  have gr6 : (clr (zsR h 82 6 (some c)) c).2.2.2.1 82 6 = some c := by rw [clr_r]; exact r82_6
  have grf : ∀ a k b, wd.2.2.1 a k = some b → (clr (zsR h 82 6 (some c)) c).2.2.2.1 a k = some b := by
    intro a k b hb
    rw [clr_r]
    show zup h.2.2.2.1 82 6 (some c) a k = some b
    have hno : wd.2.2.1 82 6 = none := by decide +kernel
    unfold zup
    split
    · next e =>
      split
      · next e2 => rw [e, e2, hno] at hb; cases hb
      · exact h2 _ _ _ hb
    · exact h2 _ _ _ hb
  have gy : (clr (zsR h 82 6 (some c)) c).2.1 1 = y := by
    funext i
    rw [clr_no (by omega)]
    exact congrFun hy i
  have gc := clr_0 (h := zsR h 82 6 (some c)) (c := c)
  generalize clr (zsR h 82 6 (some c)) c = g at gh1 gr0 gr6 grf gy gc ⊢
  have s82 := zs gh1 sh_82
  have s1 := zs gh1 sh_1
  have r82_0 := gr0
  have r82_6 := gr6
  refine pa_aload_n (pc' := 13) dX5_readPost_12 rfl rfl ?_
  refine pa_iload_n (pc' := 14) dX5_readPost_13 rfl rfl ?_
  refine pa_aload_n (pc' := 15) dX5_readPost_14 rfl rfl ?_
  refine pa_getR (pc' := 18) (n := 13) (r := 1) dX5_readPost_15 fl_5_47 s82 (by decide) r82_0 rfl ?_
  refine pa_alen (pc' := 19) (kd := 13) (n := 1000) (v := nI 1000) dX5_readPost_18 s1 (by decide) rfl rfl ?_
  refine pa_min (pc' := 22) (v := nI n) dX5_readPost_19 ml_5_60 (zble rfl) (if_neg (fun z => by
    rw [Int32.lt_iff_toInt_lt, nI_toInt (by omega), nI_toInt (by omega)] at z
    omega)) rfl ?_
  refine pa_putI (pc' := 25) (n := 13) dX5_readPost_22 fl_5_9 s82 (Or.inl rfl) (Or.inl rfl) rfl ?_
  refine pa_aload_n (pc' := 26) dX5_readPost_25 rfl rfl ?_
  refine pa_iconst (v := 0) (pc' := 27) dX5_readPost_26 (by decide) rfl ?_
  refine pa_putI (pc' := 30) (n := 13) dX5_readPost_27 fl_5_15 s82 (Or.inl rfl) (Or.inl rfl) rfl ?_
  refine pa_aload_n (pc' := 31) dX5_readPost_30 rfl rfl ?_
  refine pa_iconst (v := 0) (pc' := 32) dX5_readPost_31 (by decide) rfl ?_
  refine pa_putI (pc' := 35) (n := 13) dX5_readPost_32 fl_5_38 s82 (Or.inl rfl) (Or.inl rfl) rfl ?_
  refine pa_aload_n (pc' := 36) dX5_readPost_35 rfl rfl ?_
  refine pa_iconst (v := 0) (pc' := 37) dX5_readPost_36 (by decide) rfl ?_
  refine pa_putI (pc' := 40) (n := 13) dX5_readPost_37 fl_5_41 s82 (Or.inl rfl) (Or.inl rfl) rfl ?_
  refine pa_aload_n (pc' := 41) dX5_readPost_40 rfl rfl ?_
  refine pa_iconst (v := (-1)) (pc' := 42) dX5_readPost_41 (by decide) rfl ?_
  refine pa_putI (pc' := 45) (n := 13) dX5_readPost_42 fl_5_44 s82 (Or.inl rfl) (Or.inl rfl) rfl ?_
  refine pa_iconst (v := nI 0) (pc' := 46) dX5_readPost_45 (by decide) rfl ?_
  refine pa_istore_n (pc' := 47) dX5_readPost_46 (by decide) rfl rfl ?_
  refine C_loop hc N 0 0 pA0 _ _ ⟨⟨gh1, ?_, r82_6, ?_, ?_, hn⟩, ?_, Nat.zero_le _, ⟨?_, ?_, ?_, ?_, ?_, ?_, fun i hi => absurd hi (Nat.not_lt_zero i), fun i hi => absurd hi (Nat.not_lt_zero i), fun i hi => absurd hi (Nat.not_lt_zero i), fun j hj => absurd rfl hj⟩, ?_, by decide, fun _ => 0, fun j hj => absurd hj (Nat.not_lt_zero j), fun i _ z => absurd rfl z⟩ pI_0 (Nat.le_refl _) rfl rfl
  · intro a k b hb
    exact grf a k b hb
  · funext i
    rw [zsI_no (by omega), zsI_no (by omega), zsI_no (by omega), zsI_no (by omega), zsI_no (by omega)]
    exact congrFun gy i
  · rw [zsI_no (by omega), zsI_no (by omega), zsI_no (by omega), zsI_no (by omega), zsI_eq]
  · rw [zsI_no (by omega), zsI_no (by omega), zsI_no (by omega), zsI_eq]
    rfl
  · rw [zsI_no (by omega), zsI_no (by omega), zsI_no (by omega), zsI_no (by omega), zsI_no (by omega)]; exact gc.1
  · rw [zsI_no (by omega), zsI_no (by omega), zsI_no (by omega), zsI_no (by omega), zsI_no (by omega)]; exact gc.2.1
  · rw [zsI_no (by omega), zsI_no (by omega), zsI_no (by omega), zsI_no (by omega), zsI_no (by omega)]; exact gc.2.2.1
  · rw [zsI_no (by omega), zsI_no (by omega), zsI_no (by omega), zsI_no (by omega), zsI_no (by omega)]; exact gc.2.2.2.1
  · rw [zsI_no (by omega), zsI_no (by omega), zsI_no (by omega), zsI_no (by omega), zsI_no (by omega)]; exact gc.2.2.2.2.1
  · rw [zsI_no (by omega), zsI_no (by omega), zsI_no (by omega), zsI_no (by omega), zsI_no (by omega)]; exact gc.2.2.2.2.2
  · rw [zsI_no (by omega), zsI_no (by omega), zsI_eq]
    rfl
end Qx
