/-! feed: what lies on both tapes -/
def wF (x1 x2 x3 x4 x5 : Int32) (k : Nat) : Int32 := if k < 4 then x1 else if k < 8 then x2 else if k < 12 then x3 else if k < 16 then x4 else x5
def shB (k : Nat) : Int32 := (24 : Int32) - 8 * (nI k - nI k / 4 * 4)
def bR (x : Int32) (k : Nat) : Int32 := (x >>> (shB k &&& 31)) &&& 255
def bC (x : Int32) (k : Nat) : Int32 := vp_nar .byte (x >>> (shB k &&& 31)).toInt8.toInt32
theorem and255 (v : Int32) : (v &&& 255).toInt = v.toInt % 256 := by
  have e : (v &&& 255).toBitVec = v.toBitVec &&& 255#32 := rfl
  have h1 : (v &&& 255).toBitVec.toNat = v.toBitVec.toNat % 256 := by
    rw [e, BitVec.toNat_and]
    exact Nat.and_two_pow_sub_one_eq_mod _ 8
  show (v &&& 255).toBitVec.toInt = v.toBitVec.toInt % 256
  have h2 : v.toBitVec.toNat < 4294967296 := v.toBitVec.isLt
  rw [BitVec.toInt_eq_toNat_cond, BitVec.toInt_eq_toNat_cond, h1]
  split <;> split <;> omega
theorem i8 (v : Int32) : v.toInt8.toInt32.toInt = v.toInt.bmod 256 := by
  rw [Int8.toInt_toInt32, Int32.toInt_toInt8]
theorem tb (x : Int32) (k : Nat) : TB (bC x k) (bR x k) := by
  unfold bC bR
  generalize x >>> (shB k &&& 31) = v
  have e : vp_nar .byte v.toInt8.toInt32 = v.toInt8.toInt32 := by
    apply Int32.toInt_inj.mp
    show (v.toInt8.toInt32).toInt8.toInt32.toInt = _
    rw [i8, i8]
    exact Int.bmod_bmod
  rw [e]
  have a := i8 v
  have b := and255 v
  unfold TB
  rw [Int.bmod_def] at a
  by_cases c : v.toInt % 256 < 128
  · left
    refine ⟨by omega, Int32.toInt_inj.mp (by omega)⟩
  · right
    omega
section FDX
variable {d N s t : Nat} {h h' g : zH} {x x1 x2 x3 x4 x5 : Int32} {Q : Option zV → zH → Prop}
theorem pf_pick {k : Nat} {ls : zL} (hk : k < 20) (hl1 : zget ls 1 = some (.inl x1)) (hl2 : zget ls 2 = some (.inl x2)) (hl3 : zget ls 3 = some (.inl x3)) (hl4 : zget ls 4 = some (.inl x4)) (hl5 : zget ls 5 = some (.inl x5)) (hl6 : zget ls 6 = some (.inl (nI k))) (K : zPn N none d mX12_feed (76, ls, [.inl (wF x1 x2 x3 x4 x5 k)], h) Q) : zPn N none d mX12_feed (30, ls, [], h) Q := by
  have F : ∀ {a b : Nat}, a < 1000 → b < 1000 → zcond .ge (nI a) (nI b) = true → b ≤ a := fun h1 h2 c => by
    have c := zi_nlt (zk_ge_lt c)
    rw [nI_toInt (by omega), nI_toInt (by omega)] at c
    omega
  have G : ∀ {a b : Nat}, a < 1000 → b < 1000 → zcond .ge (nI a) (nI b) = false → a < b := fun h1 h2 c => by
    have c := zi_lt (zk_ge_lt c)
    rw [nI_toInt (by omega), nI_toInt (by omega)] at c
    omega
  refine pa_iload (pc' := 32) dX12_feed_30 hl6 rfl ?_
  refine pa_iconst (v := nI 4) (pc' := 33) dX12_feed_32 (by decide) rfl ?_
  refine pa_icmp (pc' := 40) (pc2 := 36) dX12_feed_33 (by decide) rfl (fun c => ?_) (fun c => ?_)
  · have c4 := F (by omega) (by omega) c
    refine pa_iload (pc' := 42) dX12_feed_40 hl6 rfl ?_
    refine pa_bipush (v := nI 8) (pc' := 44) dX12_feed_42 (by decide) rfl ?_
    refine pa_icmp (pc' := 51) (pc2 := 47) dX12_feed_44 (by decide) rfl (fun c => ?_) (fun c => ?_)
    · have c8 := F (by omega) (by omega) c
      refine pa_iload (pc' := 53) dX12_feed_51 hl6 rfl ?_
      refine pa_bipush (v := nI 12) (pc' := 55) dX12_feed_53 (by decide) rfl ?_
      refine pa_icmp (pc' := 62) (pc2 := 58) dX12_feed_55 (by decide) rfl (fun c => ?_) (fun c => ?_)
      · have c12 := F (by omega) (by omega) c
        refine pa_iload (pc' := 64) dX12_feed_62 hl6 rfl ?_
        refine pa_bipush (v := nI 16) (pc' := 66) dX12_feed_64 (by decide) rfl ?_
        refine pa_icmp (pc' := 74) (pc2 := 69) dX12_feed_66 (by decide) rfl (fun c => ?_) (fun c => ?_)
        · have c16 := F (by omega) (by omega) c
          refine pa_iload (pc' := 76) dX12_feed_74 hl5 rfl ?_
          unfold wF at K
          rw [if_neg (by omega), if_neg (by omega), if_neg (by omega), if_neg (by omega)] at K
          exact K
        · have c16 := G (by omega) (by omega) c
          refine pa_iload (pc' := 71) dX12_feed_69 hl4 rfl ?_
          refine pa_goto (pc' := 76) dX12_feed_71 (by decide) ?_
          unfold wF at K
          rw [if_neg (by omega), if_neg (by omega), if_neg (by omega), if_pos c16] at K
          exact K
      · have c12 := G (by omega) (by omega) c
        refine pa_iload_n (pc' := 59) dX12_feed_58 hl3 rfl ?_
        refine pa_goto (pc' := 76) dX12_feed_59 (by decide) ?_
        unfold wF at K
        rw [if_neg (by omega), if_neg (by omega), if_pos c12] at K
        exact K
    · have c8 := G (by omega) (by omega) c
      refine pa_iload_n (pc' := 48) dX12_feed_47 hl2 rfl ?_
      refine pa_goto (pc' := 76) dX12_feed_48 (by decide) ?_
      unfold wF at K
      rw [if_neg (by omega), if_pos c8] at K
      exact K
  · have c4 := G (by omega) (by omega) c
    refine pa_iload_n (pc' := 37) dX12_feed_36 hl1 rfl ?_
    refine pa_goto (pc' := 76) dX12_feed_37 (by decide) ?_
    unfold wF at K
    rw [if_pos c4] at K
    exact K
def fdR (s : Nat) (x1 x2 x3 x4 x5 : Int32) (h h' : zH) : Prop := (∀ k, k < s → h'.2.1 197 k = h.2.1 197 k) ∧ (s ≤ 980 → ∀ k, k < 20 → h'.2.1 197 (s + k) = bR (wF x1 x2 x3 x4 x5 k) k)
theorem pf_loop (hs : s ≤ 980) : ∀ (N k : Nat) (g : zH) (ls : zL), k ≤ 20 → zsh g 196 = some (12, 39) → zsh g 197 = some (14, 1000) → g.2.2.2.1 196 1 = some 197 → g.2.1 196 2 = nI (s + k) → (∀ j, j < s → g.2.1 197 j = h.2.1 197 j) → (∀ j, j < k → g.2.1 197 (s + j) = bR (wF x1 x2 x3 x4 x5 j) j) → zget ls 0 = some (.inr (.inr (some 196))) → zget ls 1 = some (.inl x1) → zget ls 2 = some (.inl x2) → zget ls 3 = some (.inl x3) → zget ls 4 = some (.inl x4) → zget ls 5 = some (.inl x5) → zget ls 6 = some (.inl (nI k)) → zPn N none d mX12_feed (23, ls, [], g) (fun v h' => fdR s x1 x2 x3 x4 x5 h h') := by
  intro N
  induction N with
  | zero => intros; exact zPn.zero
  | succ N ih =>
    intro k g ls hk s196 s197 r196_1 ht hold hnew hl0 hl1 hl2 hl3 hl4 hl5 hl6
    refine pa_iload (pc' := 25) dX12_feed_23 hl6 rfl ?_
    refine pa_bipush (v := nI 20) (pc' := 27) dX12_feed_25 (by decide) rfl ?_
    refine pa_icmp (pc' := 120) (pc2 := 30) dX12_feed_27 (by decide) rfl (fun c => ?_) (fun c => ?_)
    · have c := zi_nlt (zk_ge_lt c)
      rw [nI_toInt (by omega), nI_toInt (by omega)] at c
      refine pa_aload_n (pc' := 121) dX12_feed_120 hl0 rfl ?_
      refine pa_getI (pc' := 124) (n := 39) dX12_feed_121 fl_12_68 s196 (by decide) ht rfl ?_
      exact pa_iret dX12_feed_124 rfl rfl ⟨hold, fun _ j hj => hnew j (by omega)⟩
    · have c := zi_lt (zk_ge_lt c)
      rw [nI_toInt (by omega), nI_toInt (by omega)] at c
      refine pf_pick (by omega) hl1 hl2 hl3 hl4 hl5 hl6 ?_
      refine pa_istore (pc' := 78) dX12_feed_76 (by decide) rfl rfl ?_
      have hl0 := zget_s1 (k := 7) (v := .inl (wF x1 x2 x3 x4 x5 k)) hl0 (by decide) (by simp [zcat])
      have hl1 := zget_s1 (k := 7) (v := .inl (wF x1 x2 x3 x4 x5 k)) hl1 (by decide) (by simp [zcat])
      have hl2 := zget_s1 (k := 7) (v := .inl (wF x1 x2 x3 x4 x5 k)) hl2 (by decide) (by simp [zcat])
      have hl3 := zget_s1 (k := 7) (v := .inl (wF x1 x2 x3 x4 x5 k)) hl3 (by decide) (by simp [zcat])
      have hl4 := zget_s1 (k := 7) (v := .inl (wF x1 x2 x3 x4 x5 k)) hl4 (by decide) (by simp [zcat])
      have hl5 := zget_s1 (k := 7) (v := .inl (wF x1 x2 x3 x4 x5 k)) hl5 (by decide) (by simp [zcat])
      have hl6 := zget_s1 (k := 7) (v := .inl (wF x1 x2 x3 x4 x5 k)) hl6 (by decide) (by simp [zcat])
      have hl7 : zget (zset1 ls 7 (.inl (wF x1 x2 x3 x4 x5 k))) 7 = some (.inl (wF x1 x2 x3 x4 x5 k)) := zget_s1e
      refine pa_aload_n (pc' := 79) dX12_feed_78 hl0 rfl ?_
      refine pa_getR (pc' := 82) (n := 39) (r := 197) dX12_feed_79 fl_12_7 s196 (by decide) r196_1 rfl ?_
      refine pa_aload_n (pc' := 83) dX12_feed_82 hl0 rfl ?_
      refine pa_getI (pc' := 86) (n := 39) dX12_feed_83 fl_12_68 s196 (by decide) ht rfl ?_
      refine pa_iload (pc' := 88) dX12_feed_86 hl7 rfl ?_
      refine pa_bipush (v := 24) (pc' := 90) dX12_feed_88 (by decide) rfl ?_
      refine pa_bipush (v := 8) (pc' := 92) dX12_feed_90 (by decide) rfl ?_
      refine pa_iload (pc' := 94) dX12_feed_92 hl6 rfl ?_
      refine pa_iconst (v := 4) (pc' := 95) dX12_feed_94 (by decide) rfl ?_
      refine pa_irem (pc' := 96) dX12_feed_95 (by decide) rfl rfl ?_
      refine pa_imul (pc' := 97) dX12_feed_96 rfl rfl ?_
      refine pa_isub (pc' := 98) dX12_feed_97 rfl rfl ?_
      refine pa_ishr (pc' := 99) dX12_feed_98 rfl rfl ?_
      refine pa_sipush (v := 255) (pc' := 102) dX12_feed_99 (by decide) rfl ?_
      refine pa_iand (pc' := 103) dX12_feed_102 rfl rfl ?_
      refine pa_iast (pc' := 104) (n := 1000) dX12_feed_103 s197 rfl (fun _ => ?_)
      rw [nI_clamp (by omega)]
      refine pa_aload_n (pc' := 105) dX12_feed_104 hl0 rfl ?_
      refine pa_dup (pc' := 106) dX12_feed_105 rfl rfl ?_
      refine pa_getI (pc' := 109) (n := 39) (v := nI (s + k)) dX12_feed_106 fl_12_68 s196 (by decide) (by rw [zsI_no (by omega)]; exact ht) rfl ?_
      refine pa_iconst (v := nI 1) (pc' := 110) dX12_feed_109 (by decide) rfl ?_
      refine pa_iadd (pc' := 111) (v := nI (s + (k + 1))) dX12_feed_110 (by rw [nI_add]; rfl) rfl ?_
      refine pa_putI (pc' := 114) (n := 39) dX12_feed_111 fl_12_68 s196 (Or.inl rfl) (Or.inl rfl) rfl ?_
      refine pa_iinc (pc' := 117) (v := nI (k + 1)) dX12_feed_114 hl6 (by decide) (nI_1 k) rfl rfl ?_
      refine pa_gotos (pc' := 23) dX12_feed_117 (by decide) ?_
      refine ih (k + 1) _ _ (by omega) s196 s197 r196_1 zsI_eq (fun j hj => ?_) (fun j hj => ?_) (zget_s1 hl0 (by decide) (by simp [zcat])) (zget_s1 hl1 (by decide) (by simp [zcat])) (zget_s1 hl2 (by decide) (by simp [zcat])) (zget_s1 hl3 (by decide) (by simp [zcat])) (zget_s1 hl4 (by decide) (by simp [zcat])) (zget_s1 hl5 (by decide) (by simp [zcat])) zget_s1e
      · rw [zsI_no (by omega), zsI_no (by omega)]
        exact hold j hj
      · rw [zsI_no (by omega)]
        by_cases ej : j = k
        · subst ej
          exact zsI_eq
        · rw [zsI_no (by omega)]
          exact hnew j (by omega)
theorem N_feed12 (ho : hOK wd h) (ht : h.2.1 196 2 = nI s) (hs : s ≤ 1000) : zPa d mX12_feed [.inr (.inr (some 196)), .inl x1, .inl x2, .inl x3, .inl x4, .inl x5] h (fun v h' => fdR s x1 x2 x3 x4 x5 h h') := by
  intro N
  have s196 : zsh h 196 = some (12, 39) := ho.1 196 (12, 39) (by decide +kernel)
  have s197 : zsh h 197 = some (14, 1000) := ho.1 197 (14, 1000) (by decide +kernel)
  have r196_1 : h.2.2.2.1 196 1 = some 197 := ho.2.2.1 196 1 197 (by decide +kernel)
  show zPn N none d mX12_feed (0, [(0, .inr (.inr (some 196))), (1, .inl x1), (2, .inl x2), (3, .inl x3), (4, .inl x4), (5, .inl x5)], [], h) _
  refine pa_aload_n (pc' := 1) dX12_feed_0 rfl rfl ?_
  refine pa_iconst (v := 0) (pc' := 2) dX12_feed_1 (by decide) rfl ?_
  refine pa_putI (pc' := 5) (n := 39) dX12_feed_2 fl_12_62 s196 (Or.inl rfl) (Or.inl rfl) rfl ?_
  refine pa_aload_n (pc' := 6) dX12_feed_5 rfl rfl ?_
  refine pa_getI (pc' := 9) (n := 39) (v := nI s) dX12_feed_6 fl_12_68 s196 (by decide) (by rw [zsI_no (by omega)]; exact ht) rfl ?_
  refine pa_bipush (v := nI 20) (pc' := 11) dX12_feed_9 (by decide) rfl ?_
  refine pa_iadd (pc' := 12) (v := nI (s + 20)) dX12_feed_11 (nI_add _ _) rfl ?_
  refine pa_sipush (v := nI 1000) (pc' := 15) dX12_feed_12 (by decide) rfl ?_
  refine pa_icmp (pc' := 20) (pc2 := 18) dX12_feed_15 (by decide) rfl (fun c => ?_) (fun c => ?_)
  · have c : nI (s + 20) ≤ nI 1000 := by simpa [zcond] using c
    rw [Int32.le_iff_toInt_le, nI_toInt (by omega), nI_toInt (by omega)] at c
    have c : s ≤ 980 := by omega
    refine pa_iconst (v := nI 0) (pc' := 21) dX12_feed_20 (by decide) rfl ?_
    refine pa_istore (pc' := 23) dX12_feed_21 (by decide) rfl rfl ?_
    exact pf_loop c N 0 _ _ (by omega) s196 s197 r196_1 (by rw [zsI_no (by omega)]; exact ht) (fun j hj => zsI_no (by omega)) (fun j hj => absurd hj (Nat.not_lt_zero j)) rfl rfl rfl rfl rfl rfl rfl
  · have c : ¬ nI (s + 20) ≤ nI 1000 := by simpa [zcond] using c
    rw [Int32.le_iff_toInt_le, nI_toInt (by omega), nI_toInt (by omega)] at c
    refine pa_iconst (v := (-1)) (pc' := 19) dX12_feed_18 (by decide) rfl ?_
    exact pa_iret dX12_feed_19 rfl rfl ⟨fun j hj => zsI_no (by omega), fun z => absurd z (by omega)⟩
/-- four bytes of the class's tape -/
def apR (t : Nat) (x : Int32) (h h' : zH) : Prop := h'.1 = h.1 ∧ h'.2.2.2.1 = h.2.2.2.1 ∧ h'.2.1 0 1 = nI (t + 4) ∧ (∀ k, k < t → h'.2.1 1 k = h.2.1 1 k) ∧ ∀ k, k < 4 → h'.2.1 1 (t + k) = bC x k
theorem N_append (s0 : zsh h 0 = some (11, 16)) (s1 : zsh h 1 = some (13, 1000)) (r0 : h.2.2.2.1 0 0 = some 1) (h1 : h.2.1 0 1 = nI t) (ht : t + 4 ≤ 1000) : zPa d mX11_appendBytes [.inr (.inr (some 0)), .inl x] h (fun v h' => v = none ∧ apR t x h h') := by
  intro N
  have hc : ∀ q : Fin 5, (q.val < 4 → zcond .lt (shB q.val) 0 = false ∧ shB q.val + Int32.ofInt (-8) = if q.val = 3 then -8 else shB (q.val + 1)) := by decide
  have lp : ∀ (N k : Nat) (g : zH) (ls : zL), k ≤ 4 → g.1 = h.1 → g.2.2.2.1 = h.2.2.2.1 → g.2.1 0 1 = nI (t + k) → (∀ j, j < t → g.2.1 1 j = h.2.1 1 j) → (∀ j, j < k → g.2.1 1 (t + j) = bC x j) → zget ls 0 = some (.inr (.inr (some 0))) → zget ls 1 = some (.inl x) → zget ls 2 = some (.inl (if k = 4 then -8 else shB k)) → zPn N none d mX11_appendBytes (3, ls, [], g) (fun v h' => v = none ∧ apR t x h h') := by
    intro N
    induction N with
    | zero => intros; exact zPn.zero
    | succ N ih =>
      intro k g ls hk e1 e2 g1 hold hnew hl0 hl1 hl2
      have zs : ∀ {a : Nat} {q : Option (Nat × Nat)}, zsh h a = q → zsh g a = q := fun e => by unfold zsh at *; rw [e1]; exact e
      have s0 := zs s0
      have s1 := zs s1
      have r0_0 : g.2.2.2.1 0 0 = some 1 := by rw [e2]; exact r0
      refine pa_iload_n (pc' := 4) dX11_appendBytes_3 hl2 rfl ?_
      by_cases k4 : k = 4
      · subst k4
        rw [if_pos rfl]
        refine pa_if_t (pc' := 36) dX11_appendBytes_4 (by decide) (by decide) ?_
        exact pa_vret dX11_appendBytes_36 rfl ⟨rfl, e1, e2, g1, hold, hnew⟩
      · have hq := hc ⟨k, by omega⟩ (show k < 4 by omega)
        dsimp only at hq
        rw [if_neg k4] at hl2 ⊢
        refine pa_if_f (pc' := 7) dX11_appendBytes_4 hq.1 (by decide) rfl ?_
        refine pa_aload_n (pc' := 8) dX11_appendBytes_7 hl0 rfl ?_
        refine pa_getR (pc' := 11) (n := 16) (r := 1) dX11_appendBytes_8 fl_11_9 s0 (by decide) r0_0 rfl ?_
        refine pa_aload_n (pc' := 12) dX11_appendBytes_11 hl0 rfl ?_
        refine pa_getI (pc' := 15) (n := 16) dX11_appendBytes_12 fl_11_13 s0 (by decide) g1 rfl ?_
        refine pa_iload_n (pc' := 16) dX11_appendBytes_15 hl1 rfl ?_
        refine pa_iload_n (pc' := 17) dX11_appendBytes_16 hl2 rfl ?_
        refine pa_ishr (pc' := 18) dX11_appendBytes_17 rfl rfl ?_
        refine pa_i2b (pc' := 19) dX11_appendBytes_18 rfl rfl ?_
        refine pa_bast (pc' := 20) (n := 1000) dX11_appendBytes_19 s1 rfl (fun _ => ?_)
        rw [nI_clamp (by omega)]
        refine pa_aload_n (pc' := 21) dX11_appendBytes_20 hl0 rfl ?_
        refine pa_dup (pc' := 22) dX11_appendBytes_21 rfl rfl ?_
        refine pa_getI (pc' := 25) (n := 16) (v := nI (t + k)) dX11_appendBytes_22 fl_11_13 s0 (by decide) (by rw [zsI_no (by omega)]; exact g1) rfl ?_
        refine pa_iconst (v := nI 1) (pc' := 26) dX11_appendBytes_25 (by decide) rfl ?_
        refine pa_iadd (pc' := 27) (v := nI (t + (k + 1))) dX11_appendBytes_26 (by rw [nI_add]; rfl) rfl ?_
        refine pa_putI (pc' := 30) (n := 16) dX11_appendBytes_27 fl_11_13 s0 (Or.inl rfl) (Or.inl rfl) rfl ?_
        refine pa_iinc (pc' := 33) dX11_appendBytes_30 hl2 (by decide) hq.2 rfl rfl ?_
        refine pa_gotos (pc' := 3) dX11_appendBytes_33 (by decide) ?_
        refine ih (k + 1) _ _ (by omega) e1 e2 zsI_eq (fun j hj => ?_) (fun j hj => ?_) (zget_s1 hl0 (by decide) (by simp [zcat])) (zget_s1 hl1 (by decide) (by simp [zcat])) (zget_s1e.trans (by
          by_cases k3 : k = 3
          · subst k3; rfl
          · rw [if_neg k3, if_neg (by omega)]))
        · rw [zsI_no (by omega), zsI_no (by omega)]
          exact hold j hj
        · rw [zsI_no (by omega)]
          by_cases ej : j = k
          · subst ej
            exact zsI_eq
          · rw [zsI_no (by omega)]
            exact hnew j (by omega)
  show zPn N none d mX11_appendBytes (0, [(0, .inr (.inr (some 0))), (1, .inl x)], [], h) _
  refine pa_bipush (v := shB 0) (pc' := 2) dX11_appendBytes_0 (by decide) rfl ?_
  refine pa_istore_n (pc' := 3) dX11_appendBytes_2 (by decide) rfl rfl ?_
  exact lp N 0 _ _ (by omega) rfl rfl h1 (fun j _ => rfl) (fun j hj => absurd hj (Nat.not_lt_zero j)) rfl rfl rfl
def fdC (s : Nat) (x1 x2 x3 x4 x5 : Int32) (h h' : zH) : Prop := (∀ k, k < s → h'.2.1 1 k = h.2.1 1 k) ∧ (s ≤ 980 → ∀ k, k < 20 → h'.2.1 1 (s + k) = bC (wF x1 x2 x3 x4 x5 k) k)
theorem shB_mod : ∀ q : Fin 20, shB q.val = shB (q.val % 4) := by decide
theorem bC_mod {k : Nat} (hk : k < 20) : bC x k = bC x (k % 4) := by
  unfold bC
  rw [show shB k = shB (k % 4) from shB_mod ⟨k, hk⟩]
theorem N_feed11 (ho : hOK wd h) (ht : h.2.1 0 1 = nI s) (hs : s ≤ 1000) : zPa d mX11_feed [.inr (.inr (some 0)), .inl x1, .inl x2, .inl x3, .inl x4, .inl x5] h (fun v h' => fdC s x1 x2 x3 x4 x5 h h') := by
  intro N
  have s0 : zsh h 0 = some (11, 16) := ho.1 0 (11, 16) (by decide +kernel)
  have s1 : zsh h 1 = some (13, 1000) := ho.1 1 (13, 1000) (by decide +kernel)
  have r0 : h.2.2.2.1 0 0 = some 1 := ho.2.2.1 0 0 1 (by decide +kernel)
  have zs : ∀ {h' : zH} {a : Nat}, h'.1 = h.1 → zsh h' a = zsh h a := fun e => by unfold zsh; rw [e]
  show zPn N none d mX11_feed (0, [(0, .inr (.inr (some 0))), (1, .inl x1), (2, .inl x2), (3, .inl x3), (4, .inl x4), (5, .inl x5)], [], h) _
  refine pa_aload_n (pc' := 1) dX11_feed_0 rfl rfl ?_
  refine pa_getI (pc' := 4) (n := 16) (v := nI s) dX11_feed_1 fl_11_13 s0 (by decide) ht rfl ?_
  refine pa_sipush (v := nI 980) (pc' := 7) dX11_feed_4 (by decide) rfl ?_
  refine pa_icmp (pc' := 12) (pc2 := 10) dX11_feed_7 (by decide) rfl (fun c => ?_) (fun c => ?_)
  · have c : nI s ≤ nI 980 := by simpa [zcond] using c
    rw [Int32.le_iff_toInt_le, nI_toInt (by omega), nI_toInt (by omega)] at c
    have c : s ≤ 980 := by omega
    refine pa_aload_n (pc' := 13) dX11_feed_12 rfl rfl ?_
    refine pa_iload_n (pc' := 14) dX11_feed_13 rfl rfl ?_
    refine pa_callv (pc' := 17) (vs := [.inl x1]) (rest := []) dX11_feed_14 ml_11_94 (by decide) rfl rfl rfl (fun d' _ => N_append s0 s1 r0 ht (by omega)) (fun v h1 hq => ?_)
    obtain ⟨er, a1, b1, c1, o1, n1⟩ := hq
    subst er
    refine pa_aload_n (pc' := 18) dX11_feed_17 rfl rfl ?_
    refine pa_iload_n (pc' := 19) dX11_feed_18 rfl rfl ?_
    refine pa_callv (pc' := 22) (vs := [.inl x2]) (rest := []) dX11_feed_19 ml_11_94 (by decide) rfl rfl rfl (fun d' _ => N_append ((zs a1).trans s0) ((zs a1).trans s1) (by rw [b1]; exact r0) c1 (by omega)) (fun v h2 hq => ?_)
    obtain ⟨er, a2, b2, c2, o2, n2⟩ := hq
    subst er
    have a2 := a2.trans a1
    have b2 := b2.trans b1
    refine pa_aload_n (pc' := 23) dX11_feed_22 rfl rfl ?_
    refine pa_iload_n (pc' := 24) dX11_feed_23 rfl rfl ?_
    refine pa_callv (pc' := 27) (vs := [.inl x3]) (rest := []) dX11_feed_24 ml_11_94 (by decide) rfl rfl rfl (fun d' _ => N_append ((zs a2).trans s0) ((zs a2).trans s1) (by rw [b2]; exact r0) c2 (by omega)) (fun v h3 hq => ?_)
    obtain ⟨er, a3, b3, c3, o3, n3⟩ := hq
    subst er
    have a3 := a3.trans a2
    have b3 := b3.trans b2
    refine pa_aload_n (pc' := 28) dX11_feed_27 rfl rfl ?_
    refine pa_iload (pc' := 30) dX11_feed_28 rfl rfl ?_
    refine pa_callv (pc' := 33) (vs := [.inl x4]) (rest := []) dX11_feed_30 ml_11_94 (by decide) rfl rfl rfl (fun d' _ => N_append ((zs a3).trans s0) ((zs a3).trans s1) (by rw [b3]; exact r0) c3 (by omega)) (fun v h4 hq => ?_)
    obtain ⟨er, a4, b4, c4, o4, n4⟩ := hq
    subst er
    have a4 := a4.trans a3
    have b4 := b4.trans b3
    refine pa_aload_n (pc' := 34) dX11_feed_33 rfl rfl ?_
    refine pa_iload (pc' := 36) dX11_feed_34 rfl rfl ?_
    refine pa_callv (pc' := 39) (vs := [.inl x5]) (rest := []) dX11_feed_36 ml_11_94 (by decide) rfl rfl rfl (fun d' _ => N_append ((zs a4).trans s0) ((zs a4).trans s1) (by rw [b4]; exact r0) c4 (by omega)) (fun v h5 hq => ?_)
    obtain ⟨er, a5, b5, c5, o5, n5⟩ := hq
    subst er
    have a5 := a5.trans a4
    refine pa_aload_n (pc' := 40) dX11_feed_39 rfl rfl ?_
    refine pa_getI (pc' := 43) (n := 16) dX11_feed_40 fl_11_13 ((zs a5).trans s0) (by decide) c5 rfl ?_
    refine pa_iret dX11_feed_43 rfl rfl ⟨fun k hk => ?_, fun _ k hk => ?_⟩
    · rw [o5 k (by omega), o4 k (by omega), o3 k (by omega), o2 k (by omega), o1 k hk]
    · rw [bC_mod hk]
      unfold wF
      split
      · next z =>
        rw [o5 _ (by omega), o4 _ (by omega), o3 _ (by omega), o2 _ (by omega), n1 k z, Nat.mod_eq_of_lt z]
      split
      · next _ z =>
        rw [o5 _ (by omega), o4 _ (by omega), o3 _ (by omega), show s + k = s + 4 + (k - 4) by omega, n2 (k - 4) (by omega), show k % 4 = k - 4 by omega]
      split
      · next _ _ z =>
        rw [o5 _ (by omega), o4 _ (by omega), show s + k = s + 4 + 4 + (k - 8) by omega, n3 (k - 8) (by omega), show k % 4 = k - 8 by omega]
      split
      · next _ _ _ z =>
        rw [o5 _ (by omega), show s + k = s + 4 + 4 + 4 + (k - 12) by omega, n4 (k - 12) (by omega), show k % 4 = k - 12 by omega]
      · rw [show s + k = s + 4 + 4 + 4 + 4 + (k - 16) by omega, n5 (k - 16) (by omega), show k % 4 = k - 16 by omega]
  · have c : ¬ nI s ≤ nI 980 := by simpa [zcond] using c
    rw [Int32.le_iff_toInt_le, nI_toInt (by omega), nI_toInt (by omega)] at c
    refine pa_iconst (v := -1) (pc' := 11) dX11_feed_10 (by decide) rfl ?_
    exact pa_iret dX11_feed_11 rfl rfl ⟨fun j hj => rfl, fun z => absurd z (by omega)⟩
end FDX
