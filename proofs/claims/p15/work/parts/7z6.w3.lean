/-! songs note by note -/
def fL (D nt y : Nat) : Nat := if D = 0 then 0 else y / D % nt
def dg (b : Int32) : Nat := b.toInt.toNat - 97
def rsL (nt f : Nat) (b : Int32) : Int32 := nI (97 + (dg b + f) % nt)
def okN (nt : Nat) (w : List Int32) : Prop := ∀ b ∈ w, 97 ≤ b.toInt ∧ b.toInt < 97 + nt
theorem okN.nt {nt : Nat} {w : List Int32} (h : okN nt w) (h4 : nt ≤ 4) : w.all isNt = true := List.all_eq_true.mpr (fun b hb => by
  have := h b hb
  unfold isNt
  simp only [Bool.and_eq_true, decide_eq_true_eq, Int32.le_iff_toInt_le, show (97 : Int32).toInt = 97 by decide, show (100 : Int32).toInt = 100 by decide]
  omega)
theorem dg_lt {nt : Nat} {w : List Int32} (h : okN nt w) {k : Nat} (hk : k < w.length) : dg (w.getD k 0) < nt := by
  have : w.getD k 0 ∈ w := by
    rw [List.getD_eq_getElem?_getD, List.getElem?_eq_getElem hk]
    exact List.getElem_mem hk
  have := h _ this
  unfold dg
  omega
theorem rsL_ok {nt f : Nat} (h2 : 0 < nt) (h4 : nt ≤ 4) (w : List Int32) : okN nt (w.map (rsL nt f)) := fun b hb => by
  obtain ⟨c, -, rfl⟩ := List.mem_map.mp hb
  have := Nat.mod_lt (dg c + f) h2
  unfold rsL
  rw [nI_toInt (by omega)]
  omega
theorem rsL_0 {nt : Nat} (h4 : nt ≤ 4) {w : List Int32} (h : okN nt w) : w.map (rsL nt 0) = w := by
  refine (List.map_congr_left (fun b hb => ?_)).trans (List.map_id w)
  have := h b hb
  unfold rsL dg
  refine Int32.toInt_inj.mp ?_
  rw [Nat.add_zero, Nat.mod_eq_of_lt (by omega), nI_toInt (by omega), id]
  omega
theorem cnS_dv : ∀ (w : List Int32) (v : Nat), w.all isNt = true → w.foldl (fun v b => 4 * v + (b.toInt.toNat - 97)) v / 4 ^ w.length = v
  | [], v, _ => Nat.div_one v
  | b :: w, v, h => by
    simp only [List.all_cons, Bool.and_eq_true] at h
    have r := isNt_rg h.1
    show w.foldl _ (4 * v + (b.toInt.toNat - 97)) / 4 ^ (w.length + 1) = v
    rw [Nat.pow_succ, ← Nat.div_div_eq_div_mul, cnS_dv w _ h.2]
    omega
theorem cnS_at : ∀ (w : List Int32) (v k : Nat), w.all isNt = true → k < w.length → w.foldl (fun v b => 4 * v + (b.toInt.toNat - 97)) v / 4 ^ (w.length - 1 - k) % 4 = dg (w.getD k 0)
  | [], _, _, _, h => absurd h (Nat.not_lt_zero _)
  | b :: w, v, 0, h, _ => by
    simp only [List.all_cons, Bool.and_eq_true] at h
    have r := isNt_rg h.1
    show w.foldl _ (4 * v + (b.toInt.toNat - 97)) / 4 ^ w.length % 4 = dg b
    rw [cnS_dv w _ h.2]
    unfold dg
    omega
  | b :: w, v, k + 1, h, hk => by
    simp only [List.all_cons, Bool.and_eq_true] at h
    have hk : k + 1 < w.length + 1 := hk
    have := cnS_at w (4 * v + (b.toInt.toNat - 97)) k h.2 (by omega)
    show w.foldl _ (4 * v + (b.toInt.toNat - 97)) / 4 ^ (w.length + 1 - 1 - (k + 1)) % 4 = dg (w.getD k 0)
    rw [show w.length + 1 - 1 - (k + 1) = w.length - 1 - k by omega]
    exact this
theorem nI_bv (x : Nat) : (nI x).toBitVec = BitVec.ofNat 32 x := rfl
theorem nI_shr {x s : Nat} (hx : x < 2147483648) (hs : s < 32) : nI x >>> (nI s &&& 31) = nI (x / 2 ^ s) := by
  refine Int32.toBitVec_inj.mp (BitVec.eq_of_toNat_eq ?_)
  have es : ((nI s &&& 31).toBitVec.smod 32).toNat = s := by
    have : ∀ j : Fin 32, ((nI j.val &&& 31).toBitVec.smod 32).toNat = j.val := by decide
    exact this ⟨s, hs⟩
  have e : (nI x >>> (nI s &&& 31)).toBitVec = (nI x).toBitVec.sshiftRight' ((nI s &&& 31).toBitVec.smod 32) := rfl
  have hn : (nI x).toBitVec.toNat = x := by rw [nI_bv, BitVec.toNat_ofNat]; exact Nat.mod_eq_of_lt (by omega)
  have hm : (nI x).toBitVec.msb = false := by
    rw [BitVec.msb_eq_decide, hn]
    simp only [decide_eq_false_iff_not]
    omega
  have hd : x / 2 ^ s ≤ x := Nat.div_le_self _ _
  rw [e, BitVec.sshiftRight_eq', BitVec.sshiftRight_eq_of_msb_false hm, BitVec.toNat_ushiftRight, es, hn, Nat.shiftRight_eq_div_pow, nI_bv, BitVec.toNat_ofNat, Nat.mod_eq_of_lt (by omega)]
theorem nI_and3 {x : Nat} (hx : x < 2147483648) : nI x &&& 3 = nI (x % 4) := by
  refine Int32.toBitVec_inj.mp (BitVec.eq_of_toNat_eq ?_)
  have hn : (nI x).toBitVec.toNat = x := by rw [nI_bv, BitVec.toNat_ofNat]; exact Nat.mod_eq_of_lt (by omega)
  have h3 : (3 : Int32).toBitVec.toNat = 2 ^ 2 - 1 := by decide
  have hm : (nI (x % 4)).toBitVec.toNat = x % 4 := by rw [nI_bv, BitVec.toNat_ofNat]; exact Nat.mod_eq_of_lt (by omega)
  rw [Int32.toBitVec_and, BitVec.toNat_and, hn, h3, Nat.and_two_pow_sub_one_eq_mod, hm]
theorem cnS_b {w : List Int32} (h : w.all isNt = true) (hl : w.length ≤ 6) : codeS w = nI (cnS w) ∧ cnS w < 4096 := by
  have a1 : codeS w = nI (cnS w) := codeS_n w 0 0 h (by decide) (by omega)
  have b1 : cnS w < 4 ^ (0 + w.length) := cnS_lt w 0 0 h (by decide)
  have c1 : 4 ^ (0 + w.length) ≤ 4 ^ 6 := Nat.pow_le_pow_right (by decide) (by omega)
  exact ⟨a1, by omega⟩
theorem note_at {w : List Int32} {L k : Nat} (h : w.all isNt = true) (hl : w.length = L) (h6 : L ≤ 6) (hk : k < L) : (codeS w >>> (nI (2 * ((L - 1) - k)) &&& 31)) &&& 3 = nI (dg (w.getD k 0)) := by
  obtain ⟨a1, a2⟩ := cnS_b h (by omega)
  have hd : cnS w / 2 ^ (2 * ((L - 1) - k)) ≤ cnS w := Nat.div_le_self _ _
  rw [a1, nI_shr (by omega) (by omega), nI_and3 (by omega), Nat.pow_mul, ← hl]
  exact congrArg nI (cnS_at w 0 k h (by omega))
section SNG
variable {d N c nt D E L k y f n i : Nat} {h g : zH} {A : pA} {w : List Int32}
theorem N_noteAt (hw : w.all isNt = true) (hl : w.length = L) (h6 : L ≤ 6) (hk : k < L) : zPa d mX11_noteAt [.inl (codeS w), .inl (nI L), .inl (nI k)] h (fun v g => v = some (.inl (nI (dg (w.getD k 0)))) ∧ g = h) := by
  intro N
  show zPn N none d mX11_noteAt (0, [(0, .inl (codeS w)), (1, .inl (nI L)), (2, .inl (nI k))], [], h) _
  refine pa_iload_n (pc' := 1) dX11_noteAt_0 rfl rfl ?_
  refine pa_iconst (v := nI 2) (pc' := 2) dX11_noteAt_1 (by decide) rfl ?_
  refine pa_iload_n (pc' := 3) dX11_noteAt_2 rfl rfl ?_
  refine pa_iconst (v := nI 1) (pc' := 4) dX11_noteAt_3 (by decide) rfl ?_
  refine pa_isub (pc' := 5) (v := nI (L - 1)) dX11_noteAt_4 (nI_sub (by omega)) rfl ?_
  refine pa_iload_n (pc' := 6) dX11_noteAt_5 rfl rfl ?_
  refine pa_isub (pc' := 7) (v := nI ((L - 1) - k)) dX11_noteAt_6 (nI_sub (by omega)) rfl ?_
  refine pa_imul (pc' := 8) (v := nI (2 * ((L - 1) - k))) dX11_noteAt_7 (nI_mul _ _) rfl ?_
  refine pa_ishr (pc' := 9) dX11_noteAt_8 rfl rfl ?_
  refine pa_iconst (v := 3) (pc' := 10) dX11_noteAt_9 (by decide) rfl ?_
  refine pa_iand (pc' := 11) dX11_noteAt_10 rfl rfl ?_
  refine pa_iret dX11_noteAt_11 rfl rfl ?_
  exact ⟨by rw [← note_at hw hl h6 hk], rfl⟩
/-- songs as the class holds them: notes, drift, errors -/
def sgC (c nt D E : Nat) (A : pA) (h : zH) : Prop := h.1 = hh_487.1 ∧ cc2 c ∧ (h.2.2.2.1 92 0 = some c ∧ h.2.2.2.1 c 9 = some (c + 1) ∧ h.2.2.2.1 c 10 = some (c + 2)) ∧ (h.2.1 c 0 = nI nt ∧ h.2.1 c 1 = nI E ∧ h.2.1 c 2 = nI D ∧ h.2.1 c 4 = nI (cI A)) ∧ (2 ≤ nt ∧ nt ≤ 4 ∧ D ≤ 50 ∧ E ≤ 3 ∧ cI A ≤ 7) ∧ ∀ i, i < cI A → h.2.1 (c + 2) i = nI (A.2.2.1 i).length ∧ h.2.1 (c + 1) i = codeS (A.2.2.1 i) ∧ okN nt (A.2.2.1 i) ∧ (A.2.2.1 i).length ≤ 6
theorem sgC.fr (K : sgC c nt D E A h) (f : gF 92 h g) : sgC c nt D E A g := by
  obtain ⟨k1, k2, k3, ⟨k4, k5, k6, k7⟩, k8, k9⟩ := K
  have hc : c = 2 ∨ c = 42 := k2
  refine ⟨f.1.trans k1, k2, by rw [f.2.1]; exact k3, ?_, k8, fun i hi => ?_⟩
  · rw [f.2.2 _ _ (by omega), f.2.2 _ _ (by omega), f.2.2 _ _ (by omega), f.2.2 _ _ (by omega)]
    exact ⟨k4, k5, k6, k7⟩
  · rw [f.2.2 _ _ (by omega), f.2.2 _ _ (by omega)]
    exact k9 i hi
theorem sgC.sc (K : sgC c nt D E A h) : zsh h c = some (4, 15) ∧ zsh h (c + 1) = some (14, 7) ∧ zsh h (c + 2) = some (14, 7) := by
  have hc : c = 2 ∨ c = 42 := K.2.1
  rcases hc with z | z <;> subst z
  · exact ⟨zsh_by K.1 (by decide +kernel), zsh_by K.1 (by decide +kernel), zsh_by K.1 (by decide +kernel)⟩
  · exact ⟨zsh_by K.1 (by decide +kernel), zsh_by K.1 (by decide +kernel), zsh_by K.1 (by decide +kernel)⟩
theorem nI_nz {x : Nat} (h : 0 < x) (h2 : x ≤ 2147483647) : nI x ≠ 0 := fun q => by
  have := congrArg Int32.toInt q
  rw [nI_toInt (by omega), show (0 : Int32).toInt = 0 by decide] at this
  omega
theorem zle_t {x : Int32} (h : x.toInt ≤ 0) : zcond .le x 0 = true := by
  rw [zcond_i]
  exact decide_eq_true (by rw [show (0 : Int32).toInt = 0 by decide]; exact h)
theorem zle_f {x : Int32} (h : 0 < x.toInt) : zcond .le x 0 = false := by
  rw [zcond_i]
  exact decide_eq_false (by rw [show (0 : Int32).toInt = 0 by decide]; omega)
theorem zgt_t {x : Int32} (h : 0 < x.toInt) : zcond .gt x 0 = true := by
  rw [zcond_i]
  exact decide_eq_true (by rw [show (0 : Int32).toInt = 0 by decide]; exact h)
theorem N_fallIn (K : sgC c nt D E A h) (hy : y ≤ 20000) : zPa d mX7_fallIn [.inr (.inr (some 92)), .inl (nI y)] h (fun v g => v = some (.inl (nI (fL D nt y))) ∧ g = h) := by
  intro N
  have s92 : zsh h 92 = some (7, 6) := zsh_by K.1 (by decide +kernel)
  obtain ⟨sc, -, -⟩ := K.sc
  obtain ⟨r0, r9, r10⟩ := K.2.2.1
  obtain ⟨e0, e1, e2, e4⟩ := K.2.2.2.1
  obtain ⟨b1, b2, b3, b4, b5⟩ := K.2.2.2.2.1
  show zPn N none d mX7_fallIn (0, [(0, .inr (.inr (some 92))), (1, .inl (nI y))], [], h) _
  refine pa_aload_n (pc' := 1) dX7_fallIn_0 rfl rfl ?_
  refine pa_getR (pc' := 4) (n := 6) (r := c) dX7_fallIn_1 fl_7_28 s92 (by decide) r0 rfl ?_
  refine pa_getI (pc' := 7) (n := 15) (v := nI D) dX7_fallIn_4 fl_7_32 sc (by decide) e2 rfl ?_
  unfold fL
  by_cases z : D = 0
  · rw [if_pos z]
    refine pa_if_t (pc' := 40) dX7_fallIn_7 (zle_t (by rw [nI_toInt (by omega)]; omega)) (by decide) ?_
    refine pa_iconst (v := nI 0) (pc' := 41) dX7_fallIn_40 (by decide) rfl ?_
    refine pa_iret dX7_fallIn_41 rfl rfl ?_
    exact ⟨rfl, rfl⟩
  · rw [if_neg z]
    refine pa_if_f (pc' := 10) dX7_fallIn_7 (zle_f (by rw [nI_toInt (by omega)]; omega)) (by decide) rfl ?_
    refine pa_aload_n (pc' := 11) dX7_fallIn_10 rfl rfl ?_
    refine pa_getR (pc' := 14) (n := 6) (r := c) dX7_fallIn_11 fl_7_28 s92 (by decide) r0 rfl ?_
    refine pa_getI (pc' := 17) (n := 15) (v := nI nt) dX7_fallIn_14 fl_7_37 sc (by decide) e0 rfl ?_
    refine pa_if_f (pc' := 20) dX7_fallIn_17 (zle_f (by rw [nI_toInt (by omega)]; omega)) (by decide) rfl ?_
    refine pa_iload_n (pc' := 21) dX7_fallIn_20 rfl rfl ?_
    refine pa_aload_n (pc' := 22) dX7_fallIn_21 rfl rfl ?_
    refine pa_getR (pc' := 25) (n := 6) (r := c) dX7_fallIn_22 fl_7_28 s92 (by decide) r0 rfl ?_
    refine pa_getI (pc' := 28) (n := 15) (v := nI D) dX7_fallIn_25 fl_7_32 sc (by decide) e2 rfl ?_
    refine pa_idiv (pc' := 29) (v := nI (y / D)) dX7_fallIn_28 (nI_nz (by omega) (by omega)) (nI_div (by omega) (by omega)) rfl ?_
    have hq : y / D ≤ y := Nat.div_le_self y D
    refine pa_aload_n (pc' := 30) dX7_fallIn_29 rfl rfl ?_
    refine pa_getR (pc' := 33) (n := 6) (r := c) dX7_fallIn_30 fl_7_28 s92 (by decide) r0 rfl ?_
    refine pa_getI (pc' := 36) (n := 15) (v := nI nt) dX7_fallIn_33 fl_7_37 sc (by decide) e0 rfl ?_
    refine pa_irem (pc' := 37) (v := nI (y / D % nt)) dX7_fallIn_36 (nI_nz (by omega) (by omega)) (nI_rem (by omega) (by omega)) rfl ?_
    refine pa_goto (pc' := 41) dX7_fallIn_37 (by decide) ?_
    refine pa_iret dX7_fallIn_41 rfl rfl ?_
    exact ⟨rfl, rfl⟩
theorem codeS_take {w : List Int32} {k : Nat} (hk : k < w.length) : codeS (w.take (k + 1)) = codeS (w.take k) <<< (2 &&& 31) ||| (w.getD k 0 - 97) := by
  unfold codeS
  rw [List.take_succ, List.foldl_append, List.getElem?_eq_getElem hk, List.getD_eq_getElem?_getD, List.getElem?_eq_getElem hk]
  rfl
theorem rsL_at {nt f k : Nat} (hn : 0 < nt) (h4 : nt ≤ 4) {w : List Int32} (hk : k < w.length) : (w.map (rsL nt f)).getD k 0 - 97 = nI ((dg (w.getD k 0) + f) % nt) := by
  have e : (w.map (rsL nt f)).getD k 0 = rsL nt f (w.getD k 0) := by
    rw [List.getD_eq_getElem?_getD, List.getD_eq_getElem?_getD, List.getElem?_map, List.getElem?_eq_getElem hk]
    rfl
  have := Nat.mod_lt (dg (w.getD k 0) + f) hn
  rw [e]
  unfold rsL
  have := nI_sub (a := 97 + (dg (w.getD k 0) + f) % nt) (b := 97) (by omega)
  rw [show 97 + (dg (w.getD k 0) + f) % nt - 97 = (dg (w.getD k 0) + f) % nt by omega] at this
  exact this
theorem N_raised (K : sgC c nt D E A h) (hw : okN nt w) (hl : w.length = L) (h6 : L ≤ 6) (hf : f ≤ 4) : zPa d mX7_raised [.inr (.inr (some 92)), .inl (codeS w), .inl (nI L), .inl (nI f)] h (fun v g => v = some (.inl (codeS (w.map (rsL nt f)))) ∧ g = h) := by
  intro N
  have s92 : zsh h 92 = some (7, 6) := zsh_by K.1 (by decide +kernel)
  obtain ⟨sc, -, -⟩ := K.sc
  obtain ⟨r0, r9, r10⟩ := K.2.2.1
  obtain ⟨e0, e1, e2, e4⟩ := K.2.2.2.1
  obtain ⟨b1, b2, b3, b4, b5⟩ := K.2.2.2.2.1
  have wn := hw.nt b2
  have lp : ∀ (N k : Nat) (ls : zL), k ≤ L → zget ls 0 = some (.inr (.inr (some 92))) → zget ls 1 = some (.inl (codeS w)) → zget ls 2 = some (.inl (nI L)) → zget ls 3 = some (.inl (nI f)) → zget ls 4 = some (.inl (codeS ((w.map (rsL nt f)).take k))) → zget ls 5 = some (.inl (nI k)) → zPn N none d mX7_raised (22, ls, [], h) (fun v g => v = some (.inl (codeS (w.map (rsL nt f)))) ∧ g = h) := by
    intro N
    induction N with
    | zero => intros; exact zPn.zero
    | succ N ih =>
      intro k ls hk hl0 hl1 hl2 hl3 hl4 hl5
      refine pa_iload (pc' := 24) dX7_raised_22 hl5 rfl ?_
      refine pa_iload_n (pc' := 25) dX7_raised_24 hl2 rfl ?_
      refine pa_icmp (pc' := 58) (pc2 := 28) dX7_raised_25 (by decide) rfl (fun z => ?_) (fun z => ?_)
      · have z := zi_nlt (zk_ge_lt z)
        rw [nI_toInt (by omega), nI_toInt (by omega)] at z
        refine pa_iload (pc' := 60) dX7_raised_58 hl4 rfl ?_
        refine pa_iret dX7_raised_60 rfl rfl ?_
        refine ⟨?_, rfl⟩
        rw [List.take_of_length_le (by rw [List.length_map]; omega)]
      · have z := zi_lt (zk_ge_lt z)
        rw [nI_toInt (by omega), nI_toInt (by omega)] at z
        have dl := dg_lt hw (k := k) (by omega)
        refine pa_iload (pc' := 30) dX7_raised_28 hl4 rfl ?_
        refine pa_iconst (v := 2) (pc' := 31) dX7_raised_30 (by decide) rfl ?_
        refine pa_ishl (pc' := 32) dX7_raised_31 rfl rfl ?_
        refine pa_iload_n (pc' := 33) dX7_raised_32 hl1 rfl ?_
        refine pa_iload_n (pc' := 34) dX7_raised_33 hl2 rfl ?_
        refine pa_iload (pc' := 36) dX7_raised_34 hl5 rfl ?_
        refine pa_calls (pc' := 39) (kd := 3) (vs := [.inl (codeS w), .inl (nI L), .inl (nI k)]) (rest := [.inl ((codeS ((w.map (rsL nt f)).take k)) <<< (2 &&& 31))]) dX7_raised_36 ml_7_40 (.inr rfl) rfl rfl rfl (fun d' _ => N_noteAt wn hl h6 (by omega)) (fun v g9 hq => ?_)
        obtain ⟨ev, eh⟩ := hq
        subst ev
        rw [eh]
        show zPn (N + 1) none d mX7_raised (39, _, [.inl (nI (dg (w.getD k 0))), .inl ((codeS ((w.map (rsL nt f)).take k)) <<< (2 &&& 31))], h) _
        refine pa_iload_n (pc' := 40) dX7_raised_39 hl3 rfl ?_
        refine pa_iadd (pc' := 41) (v := nI (dg (w.getD k 0) + f)) dX7_raised_40 (nI_add _ _) rfl ?_
        refine pa_aload_n (pc' := 42) dX7_raised_41 hl0 rfl ?_
        refine pa_getR (pc' := 45) (n := 6) (r := c) dX7_raised_42 fl_7_28 s92 (by decide) r0 rfl ?_
        refine pa_getI (pc' := 48) (n := 15) (v := nI nt) dX7_raised_45 fl_7_37 sc (by decide) e0 rfl ?_
        refine pa_irem (pc' := 49) (v := nI ((dg (w.getD k 0) + f) % nt)) dX7_raised_48 (nI_nz (by omega) (by omega)) (nI_rem (by omega) (by omega)) rfl ?_
        refine pa_ior (pc' := 50) dX7_raised_49 rfl rfl ?_
        refine pa_istore (pc' := 52) dX7_raised_50 (by decide) rfl rfl ?_
        refine pa_iinc (pc' := 55) (v := nI (k + 1)) dX7_raised_52 (zget_s1 hl5 (by decide) (by simp [zcat])) (by decide) (nI_add k 1) rfl rfl ?_
        refine pa_gotos (pc' := 22) dX7_raised_55 (by decide) ?_
        refine ih (k + 1) _ (by omega) (zget_s1 (zget_s1 hl0 (by decide) (by simp [zcat])) (by decide) (by simp [zcat])) (zget_s1 (zget_s1 hl1 (by decide) (by simp [zcat])) (by decide) (by simp [zcat])) (zget_s1 (zget_s1 hl2 (by decide) (by simp [zcat])) (by decide) (by simp [zcat])) (zget_s1 (zget_s1 hl3 (by decide) (by simp [zcat])) (by decide) (by simp [zcat])) ?_ zget_s1e
        rw [codeS_take (by rw [List.length_map]; omega), rsL_at (by omega) b2 (by omega)]
        exact zget_s1 zget_s1e (by decide) (by simp [zcat])
  show zPn N none d mX7_raised (0, [(0, .inr (.inr (some 92))), (1, .inl (codeS w)), (2, .inl (nI L)), (3, .inl (nI f))], [], h) _
  refine pa_iload_n (pc' := 1) dX7_raised_0 rfl rfl ?_
  by_cases z : f = 0
  · subst z
    refine pa_if_t (pc' := 14) dX7_raised_1 (by decide) (by decide) ?_
    refine pa_iload_n (pc' := 15) dX7_raised_14 rfl rfl ?_
    refine pa_iret dX7_raised_15 rfl rfl ?_
    exact ⟨by rw [rsL_0 b2 hw], rfl⟩
  · refine pa_if_f (pc' := 4) dX7_raised_1 (decide_eq_false (nI_nz (by omega) (by omega))) (by decide) rfl ?_
    refine pa_aload_n (pc' := 5) dX7_raised_4 rfl rfl ?_
    refine pa_getR (pc' := 8) (n := 6) (r := c) dX7_raised_5 fl_7_28 s92 (by decide) r0 rfl ?_
    refine pa_getI (pc' := 11) (n := 15) (v := nI nt) dX7_raised_8 fl_7_37 sc (by decide) e0 rfl ?_
    refine pa_if_t (pc' := 16) dX7_raised_11 (zgt_t (by rw [nI_toInt (by omega)]; omega)) (by decide) ?_
    refine pa_iconst (v := 0) (pc' := 17) dX7_raised_16 (by decide) rfl ?_
    refine pa_istore (pc' := 19) dX7_raised_17 (by decide) rfl rfl ?_
    refine pa_iconst (v := nI 0) (pc' := 20) dX7_raised_19 (by decide) rfl ?_
    refine pa_istore (pc' := 22) dX7_raised_20 (by decide) rfl rfl ?_
    exact lp N 0 _ (Nat.zero_le _) rfl rfl rfl rfl rfl rfl
/-- who hears it: fewest unlike, how many, who -/
def hSt (A : pA) (w : List Int32) (i : Nat) (s : Nat × Nat × Int32) : Nat × Nat × Int32 := if (A.2.2.1 i).length = w.length then (if df w (A.2.2.1 i) < s.1 then (df w (A.2.2.1 i), 1, nI i) else if df w (A.2.2.1 i) = s.1 then (s.1, s.2.1 + 1, s.2.2) else s) else s
def hFo (A : pA) (w : List Int32) : Nat → Nat × Nat × Int32
  | 0 => (w.length + 1, 0, -2)
  | i + 1 => hSt A w i (hFo A w i)
def hRe (E : Nat) (s : Nat × Nat × Int32) : Int32 := if s.2.1 = 1 ∧ s.1 ≤ E then s.2.2 else -2
theorem hFo_b (A : pA) (w : List Int32) : ∀ i, (hFo A w i).1 ≤ w.length + 1 ∧ (hFo A w i).2.1 ≤ i
  | 0 => ⟨Nat.le_refl _, Nat.le_refl _⟩
  | i + 1 => by
    obtain ⟨h1, h2⟩ := hFo_b A w i
    show (hSt A w i (hFo A w i)).1 ≤ _ ∧ (hSt A w i (hFo A w i)).2.1 ≤ i + 1
    have := df_le w (A.2.2.1 i)
    unfold hSt
    split
    · split
      · exact ⟨by dsimp only; omega, by dsimp only; omega⟩
      · split
        · exact ⟨h1, by dsimp only; omega⟩
        · exact ⟨h1, by omega⟩
    · exact ⟨h1, by omega⟩
theorem zst2 {b j : Nat} {u v : Int32} : zsI (zsI h b j u) b j v = zsI (zsI h b j u) b j v := rfl
theorem N_hearerOf (K : sgC c nt D E A h) (hw : okN nt w) (hl : w.length = L) (h6 : L ≤ 6) (hy : y ≤ 20000) : zPa d mX7_hearerOf [.inr (.inr (some 92)), .inl (codeS w), .inl (nI L), .inl (nI y)] h (fun v g => v = some (.inl (hRe E (hFo A (w.map (rsL nt (fL D nt y))) (cI A)))) ∧ gF 92 h g ∧ g.2.1 92 2 = nI (hFo A (w.map (rsL nt (fL D nt y))) (cI A)).1 ∧ g.2.1 92 3 = nI (hFo A (w.map (rsL nt (fL D nt y))) (cI A)).2.1) := by
  intro N
  obtain ⟨b1, b2, b3, b4, b5⟩ := K.2.2.2.2.1
  have hfl : fL D nt y ≤ 4 := by
    unfold fL
    split
    · omega
    · have := Nat.mod_lt (y / D) (show 0 < nt by omega)
      omega
  generalize eW : w.map (rsL nt (fL D nt y)) = W
  have okW : okN nt W := by rw [← eW]; exact rsL_ok (by omega) b2 w
  have lW : W.length = L := by rw [← eW, List.length_map]; exact hl
  have wn := okW.nt b2
  have lp : ∀ (N i : Nat) (ls : zL) (g : zH), i ≤ cI A → gF 92 h g → g.2.1 92 2 = nI (hFo A W i).1 → g.2.1 92 3 = nI (hFo A W i).2.1 → zget ls 0 = some (.inr (.inr (some 92))) → zget ls 2 = some (.inl (nI L)) → zget ls 4 = some (.inl (codeS W)) → zget ls 5 = some (.inl (hFo A W i).2.2) → zget ls 6 = some (.inl (nI i)) → zPn N none d mX7_hearerOf (32, ls, [], g) (fun v g => v = some (.inl (hRe E (hFo A W (cI A)))) ∧ gF 92 h g ∧ g.2.1 92 2 = nI (hFo A W (cI A)).1 ∧ g.2.1 92 3 = nI (hFo A W (cI A)).2.1) := by
    intro N
    induction N with
    | zero => intros; exact zPn.zero
    | succ N ih =>
      intro i ls g hi hF g2 g3 hl0 hl2 hl4 hl5 hl6
      have K2 := K.fr hF
      have s92 : zsh g 92 = some (7, 6) := zsh_by K2.1 (by decide +kernel)
      obtain ⟨sc, sc1, sc2⟩ := K2.sc
      obtain ⟨r0, r9, r10⟩ := K2.2.2.1
      obtain ⟨e0, e1, e2, e4⟩ := K2.2.2.2.1
      obtain ⟨f1, f2⟩ := hFo_b A W i
      refine pa_iload (pc' := 34) dX7_hearerOf_32 hl6 rfl ?_
      refine pa_aload_n (pc' := 35) dX7_hearerOf_34 hl0 rfl ?_
      refine pa_getR (pc' := 38) (n := 6) (r := c) dX7_hearerOf_35 fl_7_28 s92 (by decide) r0 rfl ?_
      refine pa_getI (pc' := 41) (n := 15) (v := nI (cI A)) dX7_hearerOf_38 fl_7_57 sc (by decide) e4 rfl ?_
      refine pa_icmp (pc' := 124) (pc2 := 44) dX7_hearerOf_41 (by decide) rfl (fun z => ?_) (fun z => ?_)
      · have z := zi_nlt (zk_ge_lt z)
        rw [nI_toInt (by omega), nI_toInt (by omega)] at z
        have ei : i = cI A := by omega
        subst ei
        unfold hRe
        refine pa_aload_n (pc' := 125) dX7_hearerOf_124 hl0 rfl ?_
        refine pa_getI (pc' := 128) (n := 6) (v := nI ((hFo A W (cI A)).2.1)) dX7_hearerOf_125 fl_7_18 s92 (by decide) g3 rfl ?_
        refine pa_iconst (v := nI 1) (pc' := 129) dX7_hearerOf_128 (by decide) rfl ?_
        by_cases z1 : (hFo A W (cI A)).2.1 = 1
        · refine pa_icmp_f (pc' := 132) dX7_hearerOf_129 (decide_eq_false (not_not_intro (by rw [z1]))) (by decide) rfl ?_
          refine pa_aload_n (pc' := 133) dX7_hearerOf_132 hl0 rfl ?_
          refine pa_getI (pc' := 136) (n := 6) (v := nI ((hFo A W (cI A)).1)) dX7_hearerOf_133 fl_7_15 s92 (by decide) g2 rfl ?_
          refine pa_aload_n (pc' := 137) dX7_hearerOf_136 hl0 rfl ?_
          refine pa_getR (pc' := 140) (n := 6) (r := c) dX7_hearerOf_137 fl_7_28 s92 (by decide) r0 rfl ?_
          refine pa_getI (pc' := 143) (n := 15) (v := nI E) dX7_hearerOf_140 fl_7_64 sc (by decide) e1 rfl ?_
          by_cases z2 : (hFo A W (cI A)).1 ≤ E
          · rw [if_pos ⟨z1, z2⟩]
            refine pa_icmp_f (pc' := 146) dX7_hearerOf_143 (by rw [zcond_i]; exact decide_eq_false (by rw [nI_toInt (by omega), nI_toInt (by omega)]; omega)) (by decide) rfl ?_
            refine pa_iload (pc' := 148) dX7_hearerOf_146 hl5 rfl ?_
            refine pa_goto (pc' := 153) dX7_hearerOf_148 (by decide) ?_
            refine pa_iret dX7_hearerOf_153 rfl rfl ?_
            exact ⟨rfl, hF, g2, g3⟩
          · rw [if_neg (fun q => z2 q.2)]
            refine pa_icmp_t (pc' := 151) dX7_hearerOf_143 (by rw [zcond_i]; exact decide_eq_true (by rw [nI_toInt (by omega), nI_toInt (by omega)]; omega)) (by decide) ?_
            refine pa_bipush (v := (-2)) (pc' := 153) dX7_hearerOf_151 (by decide) rfl ?_
            refine pa_iret dX7_hearerOf_153 rfl rfl ?_
            exact ⟨rfl, hF, g2, g3⟩
        · rw [if_neg (fun q => z1 q.1)]
          refine pa_icmp_t (pc' := 151) dX7_hearerOf_129 (decide_eq_true (fun q => z1 (by have := congrArg Int32.toInt q; rw [nI_toInt (by omega), nI_toInt (by omega)] at this; omega))) (by decide) ?_
          refine pa_bipush (v := (-2)) (pc' := 153) dX7_hearerOf_151 (by decide) rfl ?_
          refine pa_iret dX7_hearerOf_153 rfl rfl ?_
          exact ⟨rfl, hF, g2, g3⟩
      · have z := zi_lt (zk_ge_lt z)
        rw [nI_toInt (by omega), nI_toInt (by omega)] at z
        obtain ⟨el, es, oS, lS⟩ := K2.2.2.2.2.2 i (by omega)
        have sn := oS.nt b2
        have sk : ∀ g' s, gF 92 h g' → g'.2.1 92 2 = nI s.1 → g'.2.1 92 3 = nI s.2.1 → hFo A W (i + 1) = s → ∀ ls', zget ls' 0 = some (.inr (.inr (some 92))) → zget ls' 2 = some (.inl (nI L)) → zget ls' 4 = some (.inl (codeS W)) → zget ls' 5 = some (.inl s.2.2) → zget ls' 6 = some (.inl (nI i)) → zPn (N + 1) none d mX7_hearerOf (118, ls', [], g') (fun v g => v = some (.inl (hRe E (hFo A W (cI A)))) ∧ gF 92 h g ∧ g.2.1 92 2 = nI (hFo A W (cI A)).1 ∧ g.2.1 92 3 = nI (hFo A W (cI A)).2.1) := fun g' s F' p2 p3 es ls' l0 l2 l4 l5 l6 => by
          refine pa_iinc (pc' := 121) (v := nI (i + 1)) dX7_hearerOf_118 l6 (by decide) (nI_add i 1) rfl rfl ?_
          refine pa_gotos (pc' := 32) dX7_hearerOf_121 (by decide) ?_
          refine ih (i + 1) _ g' (by omega) F' (by rw [es]; exact p2) (by rw [es]; exact p3) (zget_s1 l0 (by decide) (by simp [zcat])) (zget_s1 l2 (by decide) (by simp [zcat])) (zget_s1 l4 (by decide) (by simp [zcat])) (by rw [es]; exact zget_s1 l5 (by decide) (by simp [zcat])) zget_s1e
        refine pa_aload_n (pc' := 45) dX7_hearerOf_44 hl0 rfl ?_
        refine pa_getR (pc' := 48) (n := 6) (r := c) dX7_hearerOf_45 fl_7_28 s92 (by decide) r0 rfl ?_
        refine pa_getR (pc' := 51) (n := 15) (r := c + 2) dX7_hearerOf_48 fl_7_47 sc (by decide) r10 rfl ?_
        refine pa_iload (pc' := 53) dX7_hearerOf_51 hl6 rfl ?_
        refine pa_iald (pc' := 54) dX7_hearerOf_53 sc2 rfl (fun _ => ?_)
        rw [nI_clamp (by omega), el]
        refine pa_iload_n (pc' := 55) dX7_hearerOf_54 hl2 rfl ?_
        by_cases z1 : (A.2.2.1 i).length = L
        · have eU : uV (codeS W) (codeS (A.2.2.1 i)) = nI (df W (A.2.2.1 i)) := uV_df wn sn (by omega) (by omega)
          have dl := df_le W (A.2.2.1 i)
          refine pa_icmp_f (pc' := 58) dX7_hearerOf_55 (decide_eq_false (not_not_intro (by rw [z1]))) (by decide) rfl ?_
          refine pa_iload (pc' := 60) dX7_hearerOf_58 hl4 rfl ?_
          refine pa_aload_n (pc' := 61) dX7_hearerOf_60 hl0 rfl ?_
          refine pa_getR (pc' := 64) (n := 6) (r := c) dX7_hearerOf_61 fl_7_28 s92 (by decide) r0 rfl ?_
          refine pa_getR (pc' := 67) (n := 15) (r := c + 1) dX7_hearerOf_64 fl_7_44 sc (by decide) r9 rfl ?_
          refine pa_iload (pc' := 69) dX7_hearerOf_67 hl6 rfl ?_
          refine pa_iald (pc' := 70) dX7_hearerOf_69 sc1 rfl (fun _ => ?_)
          rw [nI_clamp (by omega), es]
          refine pa_calls (pc' := 73) (kd := 3) (vs := [.inl (codeS W), .inl (codeS (A.2.2.1 i))]) (rest := []) dX7_hearerOf_70 ml_7_60 (.inr rfl) rfl rfl rfl (fun d' _ => N_unlike) (fun v g9 hq => ?_)
          obtain ⟨ev, eh⟩ := hq
          subst ev
          rw [eh]
          show zPn (N + 1) none d mX7_hearerOf (73, _, [.inl (uV (codeS W) (codeS (A.2.2.1 i)))], g) _
          rw [eU]
          refine pa_istore (pc' := 75) dX7_hearerOf_73 (by decide) rfl rfl ?_
          refine pa_iload (pc' := 77) dX7_hearerOf_75 zget_s1e rfl ?_
          refine pa_aload_n (pc' := 78) dX7_hearerOf_77 (zget_s1 hl0 (by decide) (by simp [zcat])) rfl ?_
          refine pa_getI (pc' := 81) (n := 6) (v := nI ((hFo A W i).1)) dX7_hearerOf_78 fl_7_15 s92 (by decide) g2 rfl ?_
          by_cases z2 : df W (A.2.2.1 i) < (hFo A W i).1
          · refine pa_icmp_f (pc' := 84) dX7_hearerOf_81 (zk_lt_ge (b := true) (zj_lt (by rw [nI_toInt (by omega), nI_toInt (by omega)]; omega))) (by decide) rfl ?_
            refine pa_aload_n (pc' := 85) dX7_hearerOf_84 (zget_s1 hl0 (by decide) (by simp [zcat])) rfl ?_
            refine pa_iload (pc' := 87) dX7_hearerOf_85 zget_s1e rfl ?_
            refine pa_putI (pc' := 90) (n := 6) dX7_hearerOf_87 fl_7_15 s92 (Or.inl rfl) (Or.inl rfl) rfl ?_
            have s92b : zsh (zsI g 92 2 (nI (df W (A.2.2.1 i)))) 92 = some (7, 6) := s92
            refine pa_aload_n (pc' := 91) dX7_hearerOf_90 (zget_s1 hl0 (by decide) (by simp [zcat])) rfl ?_
            refine pa_iconst (v := 0) (pc' := 92) dX7_hearerOf_91 (by decide) rfl ?_
            refine pa_putI (pc' := 95) (n := 6) dX7_hearerOf_92 fl_7_18 s92b (Or.inl rfl) (Or.inl rfl) rfl ?_
            refine pa_iload (pc' := 97) dX7_hearerOf_95 (zget_s1 hl6 (by decide) (by simp [zcat])) rfl ?_
            refine pa_istore (pc' := 99) dX7_hearerOf_97 (by decide) rfl rfl ?_
            refine pa_iload (pc' := 101) dX7_hearerOf_99 (zget_s1 zget_s1e (by decide) (by simp [zcat])) rfl ?_
            have s92c : zsh (zsI (zsI g 92 2 (nI (df W (A.2.2.1 i)))) 92 3 0) 92 = some (7, 6) := s92
            have q2 : (zsI (zsI g 92 2 (nI (df W (A.2.2.1 i)))) 92 3 0).2.1 92 2 = nI (df W (A.2.2.1 i)) := by rw [zsI_no (by omega), zsI_eq]
            have q3 : (zsI (zsI g 92 2 (nI (df W (A.2.2.1 i)))) 92 3 0).2.1 92 3 = nI 0 := by rw [zsI_eq]; rfl
            refine pa_aload_n (pc' := 102) dX7_hearerOf_101 (zget_s1 (zget_s1 hl0 (by decide) (by simp [zcat])) (by decide) (by simp [zcat])) rfl ?_
            refine pa_getI (pc' := 105) (n := 6) (v := nI (df W (A.2.2.1 i))) dX7_hearerOf_102 fl_7_15 s92c (by decide) q2 rfl ?_
            refine pa_icmp_f (pc' := 108) dX7_hearerOf_105 (decide_eq_false (not_not_intro rfl)) (by decide) rfl ?_
            refine pa_aload_n (pc' := 109) dX7_hearerOf_108 (zget_s1 (zget_s1 hl0 (by decide) (by simp [zcat])) (by decide) (by simp [zcat])) rfl ?_
            refine pa_dup (pc' := 110) dX7_hearerOf_109 rfl rfl ?_
            refine pa_getI (pc' := 113) (n := 6) (v := nI 0) dX7_hearerOf_110 fl_7_18 s92c (by decide) q3 rfl ?_
            refine pa_iconst (v := nI 1) (pc' := 114) dX7_hearerOf_113 (by decide) rfl ?_
            refine pa_iadd (pc' := 115) (v := nI (0 + 1)) dX7_hearerOf_114 (nI_add _ _) rfl ?_
            refine pa_putI (pc' := 118) (n := 6) dX7_hearerOf_115 fl_7_18 s92c (Or.inl rfl) (Or.inl rfl) rfl ?_
            refine sk _ (df W (A.2.2.1 i), 1, nI i) (((hF.tr gF.st).tr gF.st).tr gF.st) (by rw [zsI_no (by omega)]; exact q2) (by rw [zsI_eq]) ?_ _ (zget_s1 (zget_s1 hl0 (by decide) (by simp [zcat])) (by decide) (by simp [zcat])) (zget_s1 (zget_s1 hl2 (by decide) (by simp [zcat])) (by decide) (by simp [zcat])) (zget_s1 (zget_s1 hl4 (by decide) (by simp [zcat])) (by decide) (by simp [zcat])) zget_s1e (zget_s1 (zget_s1 hl6 (by decide) (by simp [zcat])) (by decide) (by simp [zcat]))
            show hSt A W i (hFo A W i) = _
            unfold hSt
            rw [if_pos (by omega), if_pos z2]
          · refine pa_icmp_t (pc' := 99) dX7_hearerOf_81 (zk_lt_ge (b := false) (zj_nlt (by rw [nI_toInt (by omega), nI_toInt (by omega)]; omega))) (by decide) ?_
            refine pa_iload (pc' := 101) dX7_hearerOf_99 zget_s1e rfl ?_
            refine pa_aload_n (pc' := 102) dX7_hearerOf_101 (zget_s1 hl0 (by decide) (by simp [zcat])) rfl ?_
            refine pa_getI (pc' := 105) (n := 6) (v := nI ((hFo A W i).1)) dX7_hearerOf_102 fl_7_15 s92 (by decide) g2 rfl ?_
            by_cases z3 : df W (A.2.2.1 i) = (hFo A W i).1
            · refine pa_icmp_f (pc' := 108) dX7_hearerOf_105 (decide_eq_false (not_not_intro (by rw [z3]))) (by decide) rfl ?_
              refine pa_aload_n (pc' := 109) dX7_hearerOf_108 (zget_s1 hl0 (by decide) (by simp [zcat])) rfl ?_
              refine pa_dup (pc' := 110) dX7_hearerOf_109 rfl rfl ?_
              refine pa_getI (pc' := 113) (n := 6) (v := nI ((hFo A W i).2.1)) dX7_hearerOf_110 fl_7_18 s92 (by decide) g3 rfl ?_
              refine pa_iconst (v := nI 1) (pc' := 114) dX7_hearerOf_113 (by decide) rfl ?_
              refine pa_iadd (pc' := 115) (v := nI ((hFo A W i).2.1 + 1)) dX7_hearerOf_114 (nI_add _ _) rfl ?_
              refine pa_putI (pc' := 118) (n := 6) dX7_hearerOf_115 fl_7_18 s92 (Or.inl rfl) (Or.inl rfl) rfl ?_
              refine sk _ ((hFo A W i).1, (hFo A W i).2.1 + 1, (hFo A W i).2.2) (hF.tr gF.st) (by rw [zsI_no (by omega)]; exact g2) (by rw [zsI_eq]) ?_ _ (zget_s1 hl0 (by decide) (by simp [zcat])) (zget_s1 hl2 (by decide) (by simp [zcat])) (zget_s1 hl4 (by decide) (by simp [zcat])) (zget_s1 hl5 (by decide) (by simp [zcat])) (zget_s1 hl6 (by decide) (by simp [zcat]))
              show hSt A W i (hFo A W i) = _
              unfold hSt
              rw [if_pos (by omega), if_neg z2, if_pos z3]
            · refine pa_icmp_t (pc' := 118) dX7_hearerOf_105 (decide_eq_true (fun q => z3 (by have := congrArg Int32.toInt q; rw [nI_toInt (by omega), nI_toInt (by omega)] at this; omega))) (by decide) ?_
              refine sk g (hFo A W i) hF g2 g3 ?_ _ (zget_s1 hl0 (by decide) (by simp [zcat])) (zget_s1 hl2 (by decide) (by simp [zcat])) (zget_s1 hl4 (by decide) (by simp [zcat])) (zget_s1 hl5 (by decide) (by simp [zcat])) (zget_s1 hl6 (by decide) (by simp [zcat]))
              show hSt A W i (hFo A W i) = _
              unfold hSt
              rw [if_pos (by omega), if_neg z2, if_neg z3]
        · refine pa_icmp_t (pc' := 118) dX7_hearerOf_55 (decide_eq_true (fun q => z1 (by have := congrArg Int32.toInt q; rw [nI_toInt (by omega), nI_toInt (by omega)] at this; omega))) (by decide) ?_
          refine sk g (hFo A W i) hF g2 g3 ?_ _ hl0 hl2 hl4 hl5 hl6
          show hSt A W i (hFo A W i) = _
          unfold hSt
          rw [if_neg (by omega)]
  have s92 : zsh h 92 = some (7, 6) := zsh_by K.1 (by decide +kernel)
  show zPn N none d mX7_hearerOf (0, [(0, .inr (.inr (some 92))), (1, .inl (codeS w)), (2, .inl (nI L)), (3, .inl (nI y))], [], h) _
  refine pa_aload_n (pc' := 1) dX7_hearerOf_0 rfl rfl ?_
  refine pa_iload_n (pc' := 2) dX7_hearerOf_1 rfl rfl ?_
  refine pa_iload_n (pc' := 3) dX7_hearerOf_2 rfl rfl ?_
  refine pa_aload_n (pc' := 4) dX7_hearerOf_3 rfl rfl ?_
  refine pa_iload_n (pc' := 5) dX7_hearerOf_4 rfl rfl ?_
  refine pa_callv (pc' := 8) (vs := [.inl (nI y)]) (rest := [.inl (nI L), .inl (codeS w), .inr (.inr (some 92))]) dX7_hearerOf_5 ml_7_50 (by decide) rfl rfl rfl (fun d' _ => N_fallIn K hy) (fun v g9 hq => ?_)
  obtain ⟨ev, eh⟩ := hq
  subst ev
  rw [eh]
  show zPn N none d mX7_hearerOf (8, _, [.inl (nI (fL D nt y)), .inl (nI L), .inl (codeS w), .inr (.inr (some 92))], h) _
  refine pa_callv (pc' := 11) (vs := [.inl (codeS w), .inl (nI L), .inl (nI (fL D nt y))]) (rest := []) dX7_hearerOf_8 ml_7_54 (by decide) rfl rfl rfl (fun d' _ => N_raised K hw hl h6 hfl) (fun v g9 hq => ?_)
  obtain ⟨ev, eh⟩ := hq
  subst ev
  rw [eh]
  show zPn N none d mX7_hearerOf (11, _, [.inl (codeS (w.map (rsL nt (fL D nt y))))], h) _
  rw [eW]
  refine pa_istore (pc' := 13) dX7_hearerOf_11 (by decide) rfl rfl ?_
  refine pa_bipush (v := (-2)) (pc' := 15) dX7_hearerOf_13 (by decide) rfl ?_
  refine pa_istore (pc' := 17) dX7_hearerOf_15 (by decide) rfl rfl ?_
  refine pa_aload_n (pc' := 18) dX7_hearerOf_17 rfl rfl ?_
  refine pa_iload_n (pc' := 19) dX7_hearerOf_18 rfl rfl ?_
  refine pa_iconst (v := nI 1) (pc' := 20) dX7_hearerOf_19 (by decide) rfl ?_
  refine pa_iadd (pc' := 21) (v := nI (L + 1)) dX7_hearerOf_20 (nI_add _ _) rfl ?_
  refine pa_putI (pc' := 24) (n := 6) dX7_hearerOf_21 fl_7_15 s92 (Or.inl rfl) (Or.inl rfl) rfl ?_
  have s92b : zsh (zsI h 92 2 (nI (L + 1))) 92 = some (7, 6) := s92
  refine pa_aload_n (pc' := 25) dX7_hearerOf_24 rfl rfl ?_
  refine pa_iconst (v := 0) (pc' := 26) dX7_hearerOf_25 (by decide) rfl ?_
  refine pa_putI (pc' := 29) (n := 6) dX7_hearerOf_26 fl_7_18 s92b (Or.inl rfl) (Or.inl rfl) rfl ?_
  refine pa_iconst (v := nI 0) (pc' := 30) dX7_hearerOf_29 (by decide) rfl ?_
  refine pa_istore (pc' := 32) dX7_hearerOf_30 (by decide) rfl rfl ?_
  exact lp N 0 _ _ (Nat.zero_le _) (gF.st.tr gF.st) (by rw [zsI_no (by omega), zsI_eq, ← lW]; rfl) (by rw [zsI_eq]; rfl) rfl rfl rfl rfl rfl
end SNG
/-! songs as the reference hears them -/
theorem note_eq : ∀ nt, nt < 5 → ∀ a, a < 4 → ∀ b, b < 4 → ∀ f, f < 4 → a < nt → b < nt → f < nt → ((a + nt - f) % nt = b ↔ (b + f) % nt = a) := by
  intro nt _ a _ b _ f _ ha hb hf
  have e1 : (a + nt - f) % nt = if f ≤ a then a - f else a + nt - f := by
    split
    · rw [show a + nt - f = (a - f) + nt by omega, Nat.add_mod_right, Nat.mod_eq_of_lt (by omega)]
    · exact Nat.mod_eq_of_lt (by omega)
  have e2 : (b + f) % nt = if b + f < nt then b + f else b + f - nt := by
    split
    · exact Nat.mod_eq_of_lt (by omega)
    · rw [Nat.mod_eq_sub_mod (by omega), Nat.mod_eq_of_lt (by omega)]
  rw [e1, e2]
  split <;> split <;> omega
theorem dg_inj {nt : Nat} {w s : List Int32} (hw : okN nt w) (hs : okN nt s) {a b : Int32} (ha : a ∈ w) (hb : b ∈ s) : a = b ↔ dg a = dg b := by
  have h1 := hw a ha
  have h2 := hs b hb
  unfold dg
  refine ⟨fun e => by rw [e], fun e => Int32.toInt_inj.mp (by omega)⟩
theorem getD_in {w : List Int32} {k : Nat} (hk : k < w.length) : w.getD k 0 ∈ w := by
  rw [List.getD_eq_getElem?_getD, List.getElem?_eq_getElem hk]
  exact List.getElem_mem hk
def unM (s w : List Int32) (nt f : Nat) : Nat → Nat
  | 0 => 0
  | k + 1 => unM s w nt f k + (if (dg (s.getD k 0) + nt - f) % nt = dg (w.getD k 0) then 0 else 1)
theorem rsL_getD {nt f k : Nat} {w : List Int32} (hk : k < w.length) : (w.map (rsL nt f)).getD k 0 = rsL nt f (w.getD k 0) := by
  rw [List.getD_eq_getElem?_getD, List.getD_eq_getElem?_getD, List.getElem?_map, List.getElem?_eq_getElem hk]
  rfl
theorem dg_rsL {nt f : Nat} {b : Int32} (hn : 0 < nt) (h4 : nt ≤ 4) : dg (rsL nt f b) = (dg b + f) % nt := by
  have := Nat.mod_lt (dg b + f) hn
  unfold rsL
  show (nI (97 + (dg b + f) % nt)).toInt.toNat - 97 = _
  rw [nI_toInt (by omega)]
  omega
theorem unM_df {s w : List Int32} {nt f : Nat} (h2 : 2 ≤ nt) (h4 : nt ≤ 4) (hf : f < nt) (hs : okN nt s) (hw : okN nt w) (hl : s.length = w.length) : ∀ k, k ≤ w.length → unM s w nt f k = df ((w.map (rsL nt f)).take k) (s.take k)
  | 0, _ => by
    rw [List.take_zero, List.take_zero]
    rfl
  | k + 1, hk => by
    have lm : (w.map (rsL nt f)).length = w.length := List.length_map ..
    rw [df_take _ _ k (by omega) (by omega)]
    show unM s w nt f k + _ = _
    rw [unM_df h2 h4 hf hs hw hl k (by omega)]
    have a1 := dg_lt hs (k := k) (by omega)
    have a2 := dg_lt hw (k := k) (by omega)
    have e1 := note_eq nt (by omega) (dg (s.getD k 0)) (by omega) (dg (w.getD k 0)) (by omega) f (by omega) a1 a2 hf
    have e2 : (w.map (rsL nt f)).getD k 0 = s.getD k 0 ↔ (dg (w.getD k 0) + f) % nt = dg (s.getD k 0) := by
      rw [dg_inj (rsL_ok (f := f) (by omega) h4 w) hs (getD_in (by omega)) (getD_in (by omega)), rsL_getD (by omega), dg_rsL (by omega) h4]
    by_cases z : (dg (w.getD k 0) + f) % nt = dg (s.getD k 0)
    · rw [if_pos (e1.mpr z), if_pos (e2.mpr z)]
    · rw [if_neg (fun q => z (e1.mp q)), if_neg (fun q => z (e2.mp q))]
/-- songs as the reference holds them -/
def sgM (nt D E : Nat) (A : pA) (h : zH) : Prop := h.1 = hh_487.1 ∧ (h.2.2.2.1 196 15 = some 199 ∧ h.2.2.2.1 196 17 = some 201) ∧ (h.2.1 199 0 = nI nt ∧ h.2.1 199 1 = nI E ∧ h.2.1 199 2 = nI D ∧ h.2.1 199 4 = nI (cI A)) ∧ (2 ≤ nt ∧ nt ≤ 4 ∧ D ≤ 50 ∧ E ≤ 3 ∧ cI A ≤ 7) ∧ ∀ i, i < cI A → h.2.1 199 (10 + 7 * i) = nI (A.2.2.1 i).length ∧ (∀ k, k < (A.2.2.1 i).length → h.2.1 199 (10 + 7 * i + 1 + k) = (A.2.2.1 i).getD k 0 - 97) ∧ okN nt (A.2.2.1 i) ∧ (A.2.2.1 i).length ≤ 6
def mSt (A : pA) (w : List Int32) (nt f i : Nat) (s : Nat × Int32) : Nat × Int32 := if (A.2.2.1 i).length = w.length then (if s.1 < unM (A.2.2.1 i) w nt f w.length then s else (unM (A.2.2.1 i) w nt f w.length, if unM (A.2.2.1 i) w nt f w.length < s.1 then nI i else -2)) else s
def mFo (A : pA) (w : List Int32) (nt f : Nat) : Nat → Nat × Int32
  | 0 => (7, -2)
  | i + 1 => mSt A w nt f i (mFo A w nt f i)
def mRe (E : Nat) (s : Nat × Int32) : Int32 := if s.1 ≤ E then s.2 else -2
theorem unM_le {s w : List Int32} {nt f : Nat} : ∀ k, unM s w nt f k ≤ k
  | 0 => Nat.le_refl 0
  | k + 1 => by
    have := unM_le (s := s) (w := w) (nt := nt) (f := f) k
    show unM s w nt f k + _ ≤ k + 1
    split <;> omega
section HRM
variable {d N nt D E L k y f n i b to : Nat} {h g : zH} {A : pA} {w : List Int32} {at1 ot : Int32}
theorem M_noteIn (K : sgM nt D E A h) (hi : i < cI A) (hk : k < (A.2.2.1 i).length) (hy : y ≤ 20000) : zPa d mX12_noteIn [.inr (.inr (some 196)), .inl (nI i), .inl (nI k), .inl (nI y)] h (fun v g => v = some (.inl (nI ((dg ((A.2.2.1 i).getD k 0) + nt - fL D nt y) % nt))) ∧ g = h) := by
  intro N
  have s196 := sh_196' K.1
  have s199 : zsh h 199 = some (14, 363) := zsh_by K.1 (by decide +kernel)
  obtain ⟨r15, r17⟩ := K.2.1
  obtain ⟨e0, e1, e2, e4⟩ := K.2.2.1
  obtain ⟨b1, b2, b3, b4, b5⟩ := K.2.2.2.1
  obtain ⟨el, es, oS, lS⟩ := K.2.2.2.2 i hi
  have ek : h.2.1 199 (10 + 7 * i + 1 + k) = nI (dg ((A.2.2.1 i).getD k 0)) := (es k hk).trans (nt_code (List.all_eq_true.mp (oS.nt b2) _ (getD_in hk))).1
  have dl := dg_lt oS hk
  have hfl : fL D nt y < nt := by
    unfold fL
    split
    · omega
    · exact Nat.mod_lt _ (by omega)
  have rest : zPn N none d mX12_noteIn (28, [(0, .inr (.inr (some 196))), (1, .inl (nI i)), (2, .inl (nI k)), (3, .inl (nI y))], [.inl (nI (fL D nt y))], h) (fun v g => v = some (.inl (nI ((dg ((A.2.2.1 i).getD k 0) + nt - fL D nt y) % nt))) ∧ g = h) := by
    refine pa_istore (pc' := 30) dX12_noteIn_28 (by decide) rfl rfl ?_
    refine pa_aload_n (pc' := 31) dX12_noteIn_30 rfl rfl ?_
    refine pa_getR (pc' := 34) (n := 39) (r := 199) dX12_noteIn_31 fl_12_20 s196 (by decide) r15 rfl ?_
    refine pa_bipush (v := nI 10) (pc' := 36) dX12_noteIn_34 (by decide) rfl ?_
    refine pa_bipush (v := nI 7) (pc' := 38) dX12_noteIn_36 (by decide) rfl ?_
    refine pa_iload_n (pc' := 39) dX12_noteIn_38 rfl rfl ?_
    refine pa_imul (pc' := 40) (v := nI (7 * i)) dX12_noteIn_39 (nI_mul _ _) rfl ?_
    refine pa_iadd (pc' := 41) (v := nI (10 + 7 * i)) dX12_noteIn_40 (nI_add _ _) rfl ?_
    refine pa_iconst (v := nI 1) (pc' := 42) dX12_noteIn_41 (by decide) rfl ?_
    refine pa_iadd (pc' := 43) (v := nI (10 + 7 * i + 1)) dX12_noteIn_42 (nI_add _ _) rfl ?_
    refine pa_iload_n (pc' := 44) dX12_noteIn_43 rfl rfl ?_
    refine pa_iadd (pc' := 45) (v := nI (10 + 7 * i + 1 + k)) dX12_noteIn_44 (nI_add _ _) rfl ?_
    refine pa_iald (pc' := 46) dX12_noteIn_45 s199 rfl (fun _ => ?_)
    rw [nI_clamp (by omega), ek]
    refine pa_aload_n (pc' := 47) dX12_noteIn_46 rfl rfl ?_
    refine pa_getR (pc' := 50) (n := 39) (r := 199) dX12_noteIn_47 fl_12_20 s196 (by decide) r15 rfl ?_
    refine pa_iconst (v := nI 0) (pc' := 51) dX12_noteIn_50 (by decide) rfl ?_
    refine pa_iald (pc' := 52) dX12_noteIn_51 s199 rfl (fun _ => ?_)
    rw [nI_clamp (by omega), e0]
    refine pa_iadd (pc' := 53) (v := nI (dg ((A.2.2.1 i).getD k 0) + nt)) dX12_noteIn_52 (nI_add _ _) rfl ?_
    refine pa_iload (pc' := 55) dX12_noteIn_53 rfl rfl ?_
    refine pa_isub (pc' := 56) (v := nI ((dg ((A.2.2.1 i).getD k 0) + nt) - (fL D nt y))) dX12_noteIn_55 (nI_sub (by omega)) rfl ?_
    refine pa_aload_n (pc' := 57) dX12_noteIn_56 rfl rfl ?_
    refine pa_getR (pc' := 60) (n := 39) (r := 199) dX12_noteIn_57 fl_12_20 s196 (by decide) r15 rfl ?_
    refine pa_iconst (v := nI 0) (pc' := 61) dX12_noteIn_60 (by decide) rfl ?_
    refine pa_iald (pc' := 62) dX12_noteIn_61 s199 rfl (fun _ => ?_)
    rw [nI_clamp (by omega), e0]
    refine pa_irem (pc' := 63) (v := nI ((dg ((A.2.2.1 i).getD k 0) + nt - fL D nt y) % nt)) dX12_noteIn_62 (nI_nz (by omega) (by omega)) (nI_rem (by omega) (by omega)) rfl ?_
    refine pa_iret dX12_noteIn_63 rfl rfl ?_
    exact ⟨rfl, rfl⟩
  show zPn N none d mX12_noteIn (0, [(0, .inr (.inr (some 196))), (1, .inl (nI i)), (2, .inl (nI k)), (3, .inl (nI y))], [], h) _
  refine pa_aload_n (pc' := 1) dX12_noteIn_0 rfl rfl ?_
  refine pa_getR (pc' := 4) (n := 39) (r := 199) dX12_noteIn_1 fl_12_20 s196 (by decide) r15 rfl ?_
  refine pa_iconst (v := nI 2) (pc' := 5) dX12_noteIn_4 (by decide) rfl ?_
  refine pa_iald (pc' := 6) dX12_noteIn_5 s199 rfl (fun _ => ?_)
  rw [nI_clamp (by omega), e2]
  by_cases z : D = 0
  · have e : fL D nt y = 0 := by unfold fL; rw [if_pos z]
    rw [e] at rest
    refine pa_if_f (pc' := 9) dX12_noteIn_6 (decide_eq_false (not_not_intro (by rw [z]; rfl))) (by decide) rfl ?_
    refine pa_iconst (v := nI 0) (pc' := 10) dX12_noteIn_9 (by decide) rfl ?_
    refine pa_goto (pc' := 28) dX12_noteIn_10 (by decide) ?_
    rw [e]
    exact rest
  · have e : fL D nt y = y / D % nt := by unfold fL; rw [if_neg z]
    rw [e] at rest
    refine pa_if_t (pc' := 13) dX12_noteIn_6 (decide_eq_true (nI_nz (by omega) (by omega))) (by decide) ?_
    refine pa_iload_n (pc' := 14) dX12_noteIn_13 rfl rfl ?_
    refine pa_aload_n (pc' := 15) dX12_noteIn_14 rfl rfl ?_
    refine pa_getR (pc' := 18) (n := 39) (r := 199) dX12_noteIn_15 fl_12_20 s196 (by decide) r15 rfl ?_
    refine pa_iconst (v := nI 2) (pc' := 19) dX12_noteIn_18 (by decide) rfl ?_
    refine pa_iald (pc' := 20) dX12_noteIn_19 s199 rfl (fun _ => ?_)
    rw [nI_clamp (by omega), e2]
    refine pa_idiv (pc' := 21) (v := nI (y / D)) dX12_noteIn_20 (nI_nz (by omega) (by omega)) (nI_div (by omega) (by omega)) rfl ?_
    have hq : y / D ≤ y := Nat.div_le_self y D
    refine pa_aload_n (pc' := 22) dX12_noteIn_21 rfl rfl ?_
    refine pa_getR (pc' := 25) (n := 39) (r := 199) dX12_noteIn_22 fl_12_20 s196 (by decide) r15 rfl ?_
    refine pa_iconst (v := nI 0) (pc' := 26) dX12_noteIn_25 (by decide) rfl ?_
    refine pa_iald (pc' := 27) dX12_noteIn_26 s199 rfl (fun _ => ?_)
    rw [nI_clamp (by omega), e0]
    refine pa_irem (pc' := 28) (v := nI (y / D % nt)) dX12_noteIn_27 (nI_nz (by omega) (by omega)) (nI_rem (by omega) (by omega)) rfl ?_
    rw [e]
    exact rest
theorem M_ofBox {j : Nat} (h1 : h.1 = hh_487.1) (r15 : h.2.2.2.1 196 15 = some 199) (hb : b < 8) (hj : j < 4) {q : Int32} (e : h.2.1 199 (127 + 4 * b + j) = q) : zPa d mX12_ofBox [.inr (.inr (some 196)), .inl (nI b), .inl (nI j)] h (fun v g => v = some (.inl q) ∧ g = h) := by
  intro N
  have s196 := sh_196' h1
  have s199 : zsh h 199 = some (14, 363) := zsh_by h1 (by decide +kernel)
  show zPn N none d mX12_ofBox (0, [(0, .inr (.inr (some 196))), (1, .inl (nI b)), (2, .inl (nI j))], [], h) _
  refine pa_aload_n (pc' := 1) dX12_ofBox_0 rfl rfl ?_
  refine pa_getR (pc' := 4) (n := 39) (r := 199) dX12_ofBox_1 fl_12_20 s196 (by decide) r15 rfl ?_
  refine pa_bipush (v := nI 127) (pc' := 6) dX12_ofBox_4 (by decide) rfl ?_
  refine pa_iconst (v := nI 4) (pc' := 7) dX12_ofBox_6 (by decide) rfl ?_
  refine pa_iload_n (pc' := 8) dX12_ofBox_7 rfl rfl ?_
  refine pa_imul (pc' := 9) (v := nI (4 * b)) dX12_ofBox_8 (nI_mul _ _) rfl ?_
  refine pa_iadd (pc' := 10) (v := nI (127 + 4 * b)) dX12_ofBox_9 (nI_add _ _) rfl ?_
  refine pa_iload_n (pc' := 11) dX12_ofBox_10 rfl rfl ?_
  refine pa_iadd (pc' := 12) (v := nI (127 + 4 * b + j)) dX12_ofBox_11 (nI_add _ _) rfl ?_
  refine pa_iald (pc' := 13) dX12_ofBox_12 s199 rfl (fun _ => ?_)
  rw [nI_clamp (by omega), e]
  refine pa_iret dX12_ofBox_13 rfl rfl ?_
  exact ⟨rfl, rfl⟩
theorem M_songLong (K : sgM nt D E A h) (hi : i < cI A) : zPa d mX12_songLong [.inr (.inr (some 196)), .inl (nI i)] h (fun v g => v = some (.inl (nI (A.2.2.1 i).length)) ∧ g = h) := by
  have b5 := K.2.2.2.1.2.2.2.2
  have := N_songLong (d := d) K.1 K.2.1.1 (i := i) (by omega)
  rw [(K.2.2.2.2 i hi).1] at this
  exact this
theorem M_boxLong (K : sgM nt D E A h) (hb : b < 8) (e : h.2.1 199 (127 + 4 * b + 1) = nI to) (ht : to < cI A) : zPa d mX12_boxLong [.inr (.inr (some 196)), .inl (nI b)] h (fun v g => v = some (.inl (nI (A.2.2.1 to).length)) ∧ g = h) := by
  intro N
  show zPn N none d mX12_boxLong (0, [(0, .inr (.inr (some 196))), (1, .inl (nI b))], [], h) _
  refine pa_aload_n (pc' := 1) dX12_boxLong_0 rfl rfl ?_
  refine pa_aload_n (pc' := 2) dX12_boxLong_1 rfl rfl ?_
  refine pa_iload_n (pc' := 3) dX12_boxLong_2 rfl rfl ?_
  refine pa_iconst (v := nI 1) (pc' := 4) dX12_boxLong_3 (by decide) rfl ?_
  refine pa_callv (pc' := 7) (vs := [.inl (nI b), .inl (nI 1)]) (rest := [.inr (.inr (some 196))]) dX12_boxLong_4 ml_12_262 (by decide) rfl rfl rfl (fun d' _ => M_ofBox K.1 K.2.1.1 hb (by omega) e) (fun v g9 hq => ?_)
  obtain ⟨ev, eh⟩ := hq
  subst ev
  rw [eh]
  show zPn N none d mX12_boxLong (7, _, [.inl (nI to), .inr (.inr (some 196))], h) _
  refine pa_callv (pc' := 10) (vs := [.inl (nI to)]) (rest := []) dX12_boxLong_7 ml_12_265 (by decide) rfl rfl rfl (fun d' _ => M_songLong K ht) (fun v g9 hq => ?_)
  obtain ⟨ev, eh⟩ := hq
  subst ev
  rw [eh]
  show zPn N none d mX12_boxLong (10, _, [.inl (nI ((A.2.2.1 to).length))], h) _
  refine pa_iret dX12_boxLong_10 rfl rfl ?_
  exact ⟨rfl, rfl⟩
theorem M_unlike (K : sgM nt D E A h) (hb : b < 8) (e1 : h.2.1 199 (127 + 4 * b + 1) = nI to) (ht : to < cI A) (hi : i < cI A) (hL : (A.2.2.1 to).length = L) (hLi : (A.2.2.1 i).length = L) (hy : y ≤ 20000) (hc : ∀ k, k < L → (if nI k = at1 then ot else h.2.1 201 (28 + 6 * b + k)) = nI (dg (w.getD k 0))) (hw : w.length = L) (ow : okN nt w) : zPa d mX12_unlike [.inr (.inr (some 196)), .inl (nI b), .inl (nI i), .inl (nI y), .inl at1, .inl ot] h (fun v g => v = some (.inl (nI (unM (A.2.2.1 i) w nt (fL D nt y) L))) ∧ g = h) := by
  intro N
  have s196 := sh_196' K.1
  have s201 : zsh h 201 = some (14, 76) := zsh_by K.1 (by decide +kernel)
  obtain ⟨r15, r17⟩ := K.2.1
  obtain ⟨b1, b2, b3, b4, b5⟩ := K.2.2.2.1
  obtain ⟨el, es, oS, lS⟩ := K.2.2.2.2 i hi
  have hfl : fL D nt y < nt := by
    unfold fL
    split
    · omega
    · exact Nat.mod_lt _ (by omega)
  have lp : ∀ (N k : Nat) (ls : zL), k ≤ L → zget ls 0 = some (.inr (.inr (some 196))) → zget ls 1 = some (.inl (nI b)) → zget ls 2 = some (.inl (nI i)) → zget ls 3 = some (.inl (nI y)) → zget ls 4 = some (.inl at1) → zget ls 5 = some (.inl ot) → zget ls 6 = some (.inl (nI (unM (A.2.2.1 i) w nt (fL D nt y) k))) → zget ls 7 = some (.inl (nI k)) → zPn N none d mX12_unlike (6, ls, [], h) (fun v g => v = some (.inl (nI (unM (A.2.2.1 i) w nt (fL D nt y) L))) ∧ g = h) := by
    intro N
    induction N with
    | zero => intros; exact zPn.zero
    | succ N ih =>
      intro k ls hk hl0 hl1 hl2 hl3 hl4 hl5 hl6 hl7
      have hu := unM_le (s := A.2.2.1 i) (w := w) (nt := nt) (f := fL D nt y) k
      refine pa_iload (pc' := 8) dX12_unlike_6 hl7 rfl ?_
      refine pa_aload_n (pc' := 9) dX12_unlike_8 hl0 rfl ?_
      refine pa_iload_n (pc' := 10) dX12_unlike_9 hl1 rfl ?_
      refine pa_callv (pc' := 13) (vs := [.inl (nI b)]) (rest := [.inl (nI k)]) dX12_unlike_10 ml_12_284 (by decide) rfl rfl rfl (fun d' _ => M_boxLong K hb e1 ht) (fun v g9 hq => ?_)
      obtain ⟨ev, eh⟩ := hq
      subst ev
      rw [eh]
      show zPn (N + 1) none d mX12_unlike (13, _, [.inl (nI ((A.2.2.1 to).length)), .inl (nI k)], h) _
      rw [hL]
      refine pa_icmp (pc' := 70) (pc2 := 16) dX12_unlike_13 (by decide) rfl (fun z => ?_) (fun z => ?_)
      · have z := zi_nlt (zk_ge_lt z)
        rw [nI_toInt (by omega), nI_toInt (by omega)] at z
        have e : k = L := by omega
        subst e
        refine pa_iload (pc' := 72) dX12_unlike_70 hl6 rfl ?_
        refine pa_iret dX12_unlike_72 rfl rfl ?_
        exact ⟨rfl, rfl⟩
      · have z := zi_lt (zk_ge_lt z)
        rw [nI_toInt (by omega), nI_toInt (by omega)] at z
        have dw := dg_lt ow (k := k) (by omega)
        have cmp := hc k (by omega)
        have hq := Nat.mod_lt (dg ((A.2.2.1 i).getD k 0) + nt - fL D nt y) (show 0 < nt by omega)
        have fin : zPn (N + 1) none d mX12_unlike (53, ls, [.inl (nI (dg (w.getD k 0))), .inl (nI ((dg ((A.2.2.1 i).getD k 0) + nt - fL D nt y) % nt)), .inl (nI (unM (A.2.2.1 i) w nt (fL D nt y) k))], h) (fun v g => v = some (.inl (nI (unM (A.2.2.1 i) w nt (fL D nt y) L))) ∧ g = h) := by
          by_cases z2 : (dg ((A.2.2.1 i).getD k 0) + nt - fL D nt y) % nt = dg (w.getD k 0)
          · refine pa_icmp_f (pc' := 56) dX12_unlike_53 (decide_eq_false (not_not_intro (by rw [z2]))) (by decide) rfl ?_
            refine pa_iconst (v := nI 0) (pc' := 57) dX12_unlike_56 (by decide) rfl ?_
            refine pa_goto (pc' := 61) dX12_unlike_57 (by decide) ?_
            refine pa_iadd (pc' := 62) (v := nI (unM (A.2.2.1 i) w nt (fL D nt y) k + 0)) dX12_unlike_61 (nI_add _ _) rfl ?_
            refine pa_istore (pc' := 64) dX12_unlike_62 (by decide) rfl rfl ?_
            refine pa_iinc (pc' := 67) (v := nI (k + 1)) dX12_unlike_64 (zget_s1 hl7 (by decide) (by simp [zcat])) (by decide) (nI_add k 1) rfl rfl ?_
            refine pa_gotos (pc' := 6) dX12_unlike_67 (by decide) ?_
            refine ih (k + 1) _ (by omega) (zget_s1 (zget_s1 hl0 (by decide) (by simp [zcat])) (by decide) (by simp [zcat])) (zget_s1 (zget_s1 hl1 (by decide) (by simp [zcat])) (by decide) (by simp [zcat])) (zget_s1 (zget_s1 hl2 (by decide) (by simp [zcat])) (by decide) (by simp [zcat])) (zget_s1 (zget_s1 hl3 (by decide) (by simp [zcat])) (by decide) (by simp [zcat])) (zget_s1 (zget_s1 hl4 (by decide) (by simp [zcat])) (by decide) (by simp [zcat])) (zget_s1 (zget_s1 hl5 (by decide) (by simp [zcat])) (by decide) (by simp [zcat])) ?_ zget_s1e
            show zget _ 6 = some (.inl (nI (unM (A.2.2.1 i) w nt (fL D nt y) k + (if (dg ((A.2.2.1 i).getD k 0) + nt - fL D nt y) % nt = dg (w.getD k 0) then 0 else 1))))
            rw [if_pos z2]
            exact zget_s1 zget_s1e (by decide) (by simp [zcat])
          · refine pa_icmp_t (pc' := 60) dX12_unlike_53 (decide_eq_true (fun q => z2 (by have := congrArg Int32.toInt q; rw [nI_toInt (by omega), nI_toInt (by omega)] at this; omega))) (by decide) ?_
            refine pa_iconst (v := nI 1) (pc' := 61) dX12_unlike_60 (by decide) rfl ?_
            refine pa_iadd (pc' := 62) (v := nI (unM (A.2.2.1 i) w nt (fL D nt y) k + 1)) dX12_unlike_61 (nI_add _ _) rfl ?_
            refine pa_istore (pc' := 64) dX12_unlike_62 (by decide) rfl rfl ?_
            refine pa_iinc (pc' := 67) (v := nI (k + 1)) dX12_unlike_64 (zget_s1 hl7 (by decide) (by simp [zcat])) (by decide) (nI_add k 1) rfl rfl ?_
            refine pa_gotos (pc' := 6) dX12_unlike_67 (by decide) ?_
            refine ih (k + 1) _ (by omega) (zget_s1 (zget_s1 hl0 (by decide) (by simp [zcat])) (by decide) (by simp [zcat])) (zget_s1 (zget_s1 hl1 (by decide) (by simp [zcat])) (by decide) (by simp [zcat])) (zget_s1 (zget_s1 hl2 (by decide) (by simp [zcat])) (by decide) (by simp [zcat])) (zget_s1 (zget_s1 hl3 (by decide) (by simp [zcat])) (by decide) (by simp [zcat])) (zget_s1 (zget_s1 hl4 (by decide) (by simp [zcat])) (by decide) (by simp [zcat])) (zget_s1 (zget_s1 hl5 (by decide) (by simp [zcat])) (by decide) (by simp [zcat])) ?_ zget_s1e
            show zget _ 6 = some (.inl (nI (unM (A.2.2.1 i) w nt (fL D nt y) k + (if (dg ((A.2.2.1 i).getD k 0) + nt - fL D nt y) % nt = dg (w.getD k 0) then 0 else 1))))
            rw [if_neg z2]
            exact zget_s1 zget_s1e (by decide) (by simp [zcat])
        refine pa_iload (pc' := 18) dX12_unlike_16 hl6 rfl ?_
        refine pa_aload_n (pc' := 19) dX12_unlike_18 hl0 rfl ?_
        refine pa_iload_n (pc' := 20) dX12_unlike_19 hl2 rfl ?_
        refine pa_iload (pc' := 22) dX12_unlike_20 hl7 rfl ?_
        refine pa_iload_n (pc' := 23) dX12_unlike_22 hl3 rfl ?_
        refine pa_callv (pc' := 26) (vs := [.inl (nI i), .inl (nI k), .inl (nI y)]) (rest := [.inl (nI (unM (A.2.2.1 i) w nt (fL D nt y) k))]) dX12_unlike_23 ml_12_280 (by decide) rfl rfl rfl (fun d' _ => M_noteIn K hi (by omega) hy) (fun v g9 hq => ?_)
        obtain ⟨ev, eh⟩ := hq
        subst ev
        rw [eh]
        show zPn (N + 1) none d mX12_unlike (26, _, [.inl (nI ((dg ((A.2.2.1 i).getD k 0) + nt - fL D nt y) % nt)), .inl (nI (unM (A.2.2.1 i) w nt (fL D nt y) k))], h) _
        refine pa_iload (pc' := 28) dX12_unlike_26 hl7 rfl ?_
        refine pa_iload (pc' := 30) dX12_unlike_28 hl4 rfl ?_
        by_cases z3 : nI k = at1
        · rw [if_pos z3] at cmp
          refine pa_icmp_f (pc' := 33) dX12_unlike_30 (decide_eq_false (not_not_intro z3)) (by decide) rfl ?_
          refine pa_iload (pc' := 35) dX12_unlike_33 hl5 rfl ?_
          refine pa_goto (pc' := 53) dX12_unlike_35 (by decide) ?_
          rw [cmp]
          exact fin
        · rw [if_neg z3] at cmp
          refine pa_icmp_t (pc' := 38) dX12_unlike_30 (decide_eq_true z3) (by decide) ?_
          refine pa_aload_n (pc' := 39) dX12_unlike_38 hl0 rfl ?_
          refine pa_getR (pc' := 42) (n := 39) (r := 201) dX12_unlike_39 fl_12_26 s196 (by decide) r17 rfl ?_
          refine pa_bipush (v := nI 28) (pc' := 44) dX12_unlike_42 (by decide) rfl ?_
          refine pa_bipush (v := nI 6) (pc' := 46) dX12_unlike_44 (by decide) rfl ?_
          refine pa_iload_n (pc' := 47) dX12_unlike_46 hl1 rfl ?_
          refine pa_imul (pc' := 48) (v := nI (6 * b)) dX12_unlike_47 (nI_mul _ _) rfl ?_
          refine pa_iadd (pc' := 49) (v := nI (28 + 6 * b)) dX12_unlike_48 (nI_add _ _) rfl ?_
          refine pa_iload (pc' := 51) dX12_unlike_49 hl7 rfl ?_
          refine pa_iadd (pc' := 52) (v := nI (28 + 6 * b + k)) dX12_unlike_51 (nI_add _ _) rfl ?_
          refine pa_iald (pc' := 53) dX12_unlike_52 s201 rfl (fun _ => ?_)
          rw [nI_clamp (by omega), cmp]
          exact fin
  show zPn N none d mX12_unlike (0, [(0, .inr (.inr (some 196))), (1, .inl (nI b)), (2, .inl (nI i)), (3, .inl (nI y)), (4, .inl at1), (5, .inl ot)], [], h) _
  refine pa_iconst (v := nI 0) (pc' := 1) dX12_unlike_0 (by decide) rfl ?_
  refine pa_istore (pc' := 3) dX12_unlike_1 (by decide) rfl rfl ?_
  refine pa_iconst (v := nI 0) (pc' := 4) dX12_unlike_3 (by decide) rfl ?_
  refine pa_istore (pc' := 6) dX12_unlike_4 (by decide) rfl rfl ?_
  exact lp N 0 _ (Nat.zero_le _) rfl rfl rfl rfl rfl rfl rfl rfl
theorem mFo_b (A : pA) (w : List Int32) (hl : w.length ≤ 6) : ∀ i, (mFo A w nt f i).1 ≤ 7
  | 0 => Nat.le_refl _
  | i + 1 => by
    have := mFo_b A w hl i
    have := unM_le (s := A.2.2.1 i) (w := w) (nt := nt) (f := f) w.length
    show (mSt A w nt f i (mFo A w nt f i)).1 ≤ 7
    unfold mSt
    split
    · split
      · omega
      · dsimp only; omega
    · omega
theorem M_hearsIn (K : sgM nt D E A h) (hb : b < 8) (e1 : h.2.1 199 (127 + 4 * b + 1) = nI to) (ht : to < cI A) (hL : (A.2.2.1 to).length = L) (hy : y ≤ 20000) (hc : ∀ k, k < L → (if nI k = at1 then ot else h.2.1 201 (28 + 6 * b + k)) = nI (dg (w.getD k 0))) (hw : w.length = L) (ow : okN nt w) : zPa d mX12_hearsIn [.inr (.inr (some 196)), .inl (nI b), .inl (nI y), .inl at1, .inl ot] h (fun v g => v = some (.inl (mRe E (mFo A w nt (fL D nt y) (cI A)))) ∧ g = h) := by
  intro N
  have s196 := sh_196' K.1
  have s199 : zsh h 199 = some (14, 363) := zsh_by K.1 (by decide +kernel)
  obtain ⟨r15, r17⟩ := K.2.1
  obtain ⟨q0, q1, q2, q4⟩ := K.2.2.1
  obtain ⟨b1, b2, b3, b4, b5⟩ := K.2.2.2.1
  have lT := (K.2.2.2.2 to ht).2.2.2
  have lp : ∀ (N i : Nat) (ls : zL), i ≤ cI A → zget ls 0 = some (.inr (.inr (some 196))) → zget ls 1 = some (.inl (nI b)) → zget ls 2 = some (.inl (nI y)) → zget ls 3 = some (.inl at1) → zget ls 4 = some (.inl ot) → zget ls 5 = some (.inl (mFo A w nt (fL D nt y) i).2) → zget ls 6 = some (.inl (nI (mFo A w nt (fL D nt y) i).1)) → zget ls 7 = some (.inl (nI i)) → zPn N none d mX12_hearsIn (11, ls, [], h) (fun v g => v = some (.inl (mRe E (mFo A w nt (fL D nt y) (cI A)))) ∧ g = h) := by
    intro N
    induction N with
    | zero => intros; exact zPn.zero
    | succ N ih =>
      intro i ls hi hl0 hl1 hl2 hl3 hl4 hl5 hl6 hl7
      have fb := mFo_b (nt := nt) (f := fL D nt y) A w (by omega) i
      refine pa_iload (pc' := 13) dX12_hearsIn_11 hl7 rfl ?_
      refine pa_aload_n (pc' := 14) dX12_hearsIn_13 hl0 rfl ?_
      refine pa_getR (pc' := 17) (n := 39) (r := 199) dX12_hearsIn_14 fl_12_20 s196 (by decide) r15 rfl ?_
      refine pa_iconst (v := nI 4) (pc' := 18) dX12_hearsIn_17 (by decide) rfl ?_
      refine pa_iald (pc' := 19) dX12_hearsIn_18 s199 rfl (fun _ => ?_)
      rw [nI_clamp (by omega), q4]
      refine pa_icmp (pc' := 88) (pc2 := 22) dX12_hearsIn_19 (by decide) rfl (fun z => ?_) (fun z => ?_)
      · have z := zi_nlt (zk_ge_lt z)
        rw [nI_toInt (by omega), nI_toInt (by omega)] at z
        have ei : i = cI A := by omega
        subst ei
        unfold mRe
        refine pa_iload (pc' := 90) dX12_hearsIn_88 hl6 rfl ?_
        refine pa_aload_n (pc' := 91) dX12_hearsIn_90 hl0 rfl ?_
        refine pa_getR (pc' := 94) (n := 39) (r := 199) dX12_hearsIn_91 fl_12_20 s196 (by decide) r15 rfl ?_
        refine pa_iconst (v := nI 1) (pc' := 95) dX12_hearsIn_94 (by decide) rfl ?_
        refine pa_iald (pc' := 96) dX12_hearsIn_95 s199 rfl (fun _ => ?_)
        rw [nI_clamp (by omega), q1]
        by_cases z2 : (mFo A w nt (fL D nt y) (cI A)).1 ≤ E
        · rw [if_pos z2]
          refine pa_icmp_f (pc' := 99) dX12_hearsIn_96 (by rw [zcond_i]; exact decide_eq_false (by rw [nI_toInt (by omega), nI_toInt (by omega)]; omega)) (by decide) rfl ?_
          refine pa_iload (pc' := 101) dX12_hearsIn_99 hl5 rfl ?_
          refine pa_goto (pc' := 106) dX12_hearsIn_101 (by decide) ?_
          refine pa_iret dX12_hearsIn_106 rfl rfl ?_
          exact ⟨rfl, rfl⟩
        · rw [if_neg z2]
          refine pa_icmp_t (pc' := 104) dX12_hearsIn_96 (by rw [zcond_i]; exact decide_eq_true (by rw [nI_toInt (by omega), nI_toInt (by omega)]; omega)) (by decide) ?_
          refine pa_bipush (v := (-2)) (pc' := 106) dX12_hearsIn_104 (by decide) rfl ?_
          refine pa_iret dX12_hearsIn_106 rfl rfl ?_
          exact ⟨rfl, rfl⟩
      · have z := zi_lt (zk_ge_lt z)
        rw [nI_toInt (by omega), nI_toInt (by omega)] at z
        have lS := (K.2.2.2.2 i (by omega)).2.2.2
        have nx : ∀ s, mFo A w nt (fL D nt y) (i + 1) = s → ∀ ls', zget ls' 0 = some (.inr (.inr (some 196))) → zget ls' 1 = some (.inl (nI b)) → zget ls' 2 = some (.inl (nI y)) → zget ls' 3 = some (.inl at1) → zget ls' 4 = some (.inl ot) → zget ls' 5 = some (.inl s.2) → zget ls' 6 = some (.inl (nI s.1)) → zget ls' 7 = some (.inl (nI i)) → zPn (N + 1) none d mX12_hearsIn (82, ls', [], h) (fun v g => v = some (.inl (mRe E (mFo A w nt (fL D nt y) (cI A)))) ∧ g = h) := fun s es ls' l0 l1 l2 l3 l4 l5 l6 l7 => by
          refine pa_iinc (pc' := 85) (v := nI (i + 1)) dX12_hearsIn_82 l7 (by decide) (nI_add i 1) rfl rfl ?_
          refine pa_gotos (pc' := 11) dX12_hearsIn_85 (by decide) ?_
          exact ih (i + 1) _ (by omega) (zget_s1 l0 (by decide) (by simp [zcat])) (zget_s1 l1 (by decide) (by simp [zcat])) (zget_s1 l2 (by decide) (by simp [zcat])) (zget_s1 l3 (by decide) (by simp [zcat])) (zget_s1 l4 (by decide) (by simp [zcat])) (by rw [es]; exact zget_s1 l5 (by decide) (by simp [zcat])) (by rw [es]; exact zget_s1 l6 (by decide) (by simp [zcat])) zget_s1e
        refine pa_aload_n (pc' := 23) dX12_hearsIn_22 hl0 rfl ?_
        refine pa_iload (pc' := 25) dX12_hearsIn_23 hl7 rfl ?_
        refine pa_callv (pc' := 28) (vs := [.inl (nI i)]) (rest := []) dX12_hearsIn_25 ml_12_265 (by decide) rfl rfl rfl (fun d' _ => M_songLong K (show i < cI A by omega)) (fun v g9 hq => ?_)
        obtain ⟨ev, eh⟩ := hq
        subst ev
        rw [eh]
        show zPn (N + 1) none d mX12_hearsIn (28, _, [.inl (nI ((A.2.2.1 i).length))], h) _
        refine pa_aload_n (pc' := 29) dX12_hearsIn_28 hl0 rfl ?_
        refine pa_iload_n (pc' := 30) dX12_hearsIn_29 hl1 rfl ?_
        refine pa_callv (pc' := 33) (vs := [.inl (nI b)]) (rest := [.inl (nI ((A.2.2.1 i).length))]) dX12_hearsIn_30 ml_12_284 (by decide) rfl rfl rfl (fun d' _ => M_boxLong K hb e1 ht) (fun v g9 hq => ?_)
        obtain ⟨ev, eh⟩ := hq
        subst ev
        rw [eh]
        show zPn (N + 1) none d mX12_hearsIn (33, _, [.inl (nI ((A.2.2.1 to).length)), .inl (nI ((A.2.2.1 i).length))], h) _
        rw [hL]
        by_cases z1 : (A.2.2.1 i).length = L
        · have ul := unM_le (s := A.2.2.1 i) (w := w) (nt := nt) (f := fL D nt y) L
          refine pa_icmp_t (pc' := 39) dX12_hearsIn_33 (decide_eq_true (by rw [z1])) (by decide) ?_
          refine pa_aload_n (pc' := 40) dX12_hearsIn_39 hl0 rfl ?_
          refine pa_iload_n (pc' := 41) dX12_hearsIn_40 hl1 rfl ?_
          refine pa_iload (pc' := 43) dX12_hearsIn_41 hl7 rfl ?_
          refine pa_iload_n (pc' := 44) dX12_hearsIn_43 hl2 rfl ?_
          refine pa_iload_n (pc' := 45) dX12_hearsIn_44 hl3 rfl ?_
          refine pa_iload (pc' := 47) dX12_hearsIn_45 hl4 rfl ?_
          refine pa_callv (pc' := 50) (vs := [.inl (nI b), .inl (nI i), .inl (nI y), .inl at1, .inl ot]) (rest := []) dX12_hearsIn_47 ml_12_287 (by decide) rfl rfl rfl (fun d' _ => M_unlike K hb e1 ht (show i < cI A by omega) hL z1 hy hc hw ow) (fun v g9 hq => ?_)
          obtain ⟨ev, eh⟩ := hq
          subst ev
          rw [eh]
          show zPn (N + 1) none d mX12_hearsIn (50, _, [.inl (nI (unM (A.2.2.1 i) w nt (fL D nt y) L))], h) _
          refine pa_istore (pc' := 52) dX12_hearsIn_50 (by decide) rfl rfl ?_
          refine pa_iload (pc' := 54) dX12_hearsIn_52 zget_s1e rfl ?_
          refine pa_iload (pc' := 56) dX12_hearsIn_54 (zget_s1 hl6 (by decide) (by simp [zcat])) rfl ?_
          by_cases z2 : (mFo A w nt (fL D nt y) i).1 < unM (A.2.2.1 i) w nt (fL D nt y) L
          · refine pa_icmp_f (pc' := 59) dX12_hearsIn_56 (by rw [zcond_i]; exact decide_eq_false (by rw [nI_toInt (by omega), nI_toInt (by omega)]; omega)) (by decide) rfl ?_
            refine pa_goto (pc' := 82) dX12_hearsIn_59 (by decide) ?_
            refine nx (mFo A w nt (fL D nt y) i) ?_ _ (zget_s1 hl0 (by decide) (by simp [zcat])) (zget_s1 hl1 (by decide) (by simp [zcat])) (zget_s1 hl2 (by decide) (by simp [zcat])) (zget_s1 hl3 (by decide) (by simp [zcat])) (zget_s1 hl4 (by decide) (by simp [zcat])) (zget_s1 hl5 (by decide) (by simp [zcat])) (zget_s1 hl6 (by decide) (by simp [zcat])) (zget_s1 hl7 (by decide) (by simp [zcat]))
            show mSt A w nt (fL D nt y) i (mFo A w nt (fL D nt y) i) = _
            unfold mSt
            rw [hw, if_pos z1, if_pos z2]
          · refine pa_icmp_t (pc' := 62) dX12_hearsIn_56 (by rw [zcond_i]; exact decide_eq_true (by rw [nI_toInt (by omega), nI_toInt (by omega)]; omega)) (by decide) ?_
            refine pa_iload (pc' := 64) dX12_hearsIn_62 zget_s1e rfl ?_
            refine pa_iload (pc' := 66) dX12_hearsIn_64 (zget_s1 hl6 (by decide) (by simp [zcat])) rfl ?_
            have es : mFo A w nt (fL D nt y) (i + 1) = (unM (A.2.2.1 i) w nt (fL D nt y) L, if unM (A.2.2.1 i) w nt (fL D nt y) L < (mFo A w nt (fL D nt y) i).1 then nI i else -2) := by
              show mSt A w nt (fL D nt y) i (mFo A w nt (fL D nt y) i) = _
              unfold mSt
              rw [hw, if_pos z1, if_neg z2]
            by_cases z3 : unM (A.2.2.1 i) w nt (fL D nt y) L < (mFo A w nt (fL D nt y) i).1
            · rw [if_pos z3] at es
              refine pa_icmp_f (pc' := 69) dX12_hearsIn_66 (zk_lt_ge (b := true) (zj_lt (by rw [nI_toInt (by omega), nI_toInt (by omega)]; omega))) (by decide) rfl ?_
              refine pa_iload (pc' := 71) dX12_hearsIn_69 (zget_s1 hl7 (by decide) (by simp [zcat])) rfl ?_
              refine pa_goto (pc' := 76) dX12_hearsIn_71 (by decide) ?_
              refine pa_istore (pc' := 78) dX12_hearsIn_76 (by decide) rfl rfl ?_
              refine pa_iload (pc' := 80) dX12_hearsIn_78 (zget_s1 zget_s1e (by decide) (by simp [zcat])) rfl ?_
              refine pa_istore (pc' := 82) dX12_hearsIn_80 (by decide) rfl rfl ?_
              exact nx _ es _ (zget_s1 (zget_s1 (zget_s1 hl0 (by decide) (by simp [zcat])) (by decide) (by simp [zcat])) (by decide) (by simp [zcat])) (zget_s1 (zget_s1 (zget_s1 hl1 (by decide) (by simp [zcat])) (by decide) (by simp [zcat])) (by decide) (by simp [zcat])) (zget_s1 (zget_s1 (zget_s1 hl2 (by decide) (by simp [zcat])) (by decide) (by simp [zcat])) (by decide) (by simp [zcat])) (zget_s1 (zget_s1 (zget_s1 hl3 (by decide) (by simp [zcat])) (by decide) (by simp [zcat])) (by decide) (by simp [zcat])) (zget_s1 (zget_s1 (zget_s1 hl4 (by decide) (by simp [zcat])) (by decide) (by simp [zcat])) (by decide) (by simp [zcat])) (zget_s1 zget_s1e (by decide) (by simp [zcat])) zget_s1e (zget_s1 (zget_s1 (zget_s1 hl7 (by decide) (by simp [zcat])) (by decide) (by simp [zcat])) (by decide) (by simp [zcat]))
            · rw [if_neg z3] at es
              refine pa_icmp_t (pc' := 74) dX12_hearsIn_66 (zk_lt_ge (b := false) (zj_nlt (by rw [nI_toInt (by omega), nI_toInt (by omega)]; omega))) (by decide) ?_
              refine pa_bipush (v := (-2)) (pc' := 76) dX12_hearsIn_74 (by decide) rfl ?_
              refine pa_istore (pc' := 78) dX12_hearsIn_76 (by decide) rfl rfl ?_
              refine pa_iload (pc' := 80) dX12_hearsIn_78 (zget_s1 zget_s1e (by decide) (by simp [zcat])) rfl ?_
              refine pa_istore (pc' := 82) dX12_hearsIn_80 (by decide) rfl rfl ?_
              exact nx _ es _ (zget_s1 (zget_s1 (zget_s1 hl0 (by decide) (by simp [zcat])) (by decide) (by simp [zcat])) (by decide) (by simp [zcat])) (zget_s1 (zget_s1 (zget_s1 hl1 (by decide) (by simp [zcat])) (by decide) (by simp [zcat])) (by decide) (by simp [zcat])) (zget_s1 (zget_s1 (zget_s1 hl2 (by decide) (by simp [zcat])) (by decide) (by simp [zcat])) (by decide) (by simp [zcat])) (zget_s1 (zget_s1 (zget_s1 hl3 (by decide) (by simp [zcat])) (by decide) (by simp [zcat])) (by decide) (by simp [zcat])) (zget_s1 (zget_s1 (zget_s1 hl4 (by decide) (by simp [zcat])) (by decide) (by simp [zcat])) (by decide) (by simp [zcat])) (zget_s1 zget_s1e (by decide) (by simp [zcat])) zget_s1e (zget_s1 (zget_s1 (zget_s1 hl7 (by decide) (by simp [zcat])) (by decide) (by simp [zcat])) (by decide) (by simp [zcat]))
        · refine pa_icmp_f (pc' := 36) dX12_hearsIn_33 (decide_eq_false (fun q => z1 (by have := congrArg Int32.toInt q; rw [nI_toInt (by omega), nI_toInt (by omega)] at this; omega))) (by decide) rfl ?_
          refine pa_goto (pc' := 82) dX12_hearsIn_36 (by decide) ?_
          refine nx (mFo A w nt (fL D nt y) i) ?_ _ hl0 hl1 hl2 hl3 hl4 hl5 hl6 hl7
          show mSt A w nt (fL D nt y) i (mFo A w nt (fL D nt y) i) = _
          unfold mSt
          rw [hw, if_neg z1]
  show zPn N none d mX12_hearsIn (0, [(0, .inr (.inr (some 196))), (1, .inl (nI b)), (2, .inl (nI y)), (3, .inl at1), (4, .inl ot)], [], h) _
  refine pa_bipush (v := (-2)) (pc' := 2) dX12_hearsIn_0 (by decide) rfl ?_
  refine pa_istore (pc' := 4) dX12_hearsIn_2 (by decide) rfl rfl ?_
  refine pa_bipush (v := nI 7) (pc' := 6) dX12_hearsIn_4 (by decide) rfl ?_
  refine pa_istore (pc' := 8) dX12_hearsIn_6 (by decide) rfl rfl ?_
  refine pa_iconst (v := nI 0) (pc' := 9) dX12_hearsIn_8 (by decide) rfl ?_
  refine pa_istore (pc' := 11) dX12_hearsIn_9 (by decide) rfl rfl ?_
  exact lp N 0 _ (Nat.zero_le _) rfl rfl rfl rfl rfl rfl rfl rfl
/-- both hear the same -/
theorem hear_eq (b1 : 2 ≤ nt) (b2 : nt ≤ 4) (b4 : E ≤ 3) (hS : ∀ i, i < cI A → okN nt (A.2.2.1 i)) (ow : okN nt w) (hl : w.length ≤ 6) : hRe E (hFo A (w.map (rsL nt (fL D nt y))) (cI A)) = mRe E (mFo A w nt (fL D nt y) (cI A)) := by
  have hfl : fL D nt y < nt := by
    unfold fL
    split
    · omega
    · exact Nat.mod_lt _ (by omega)
  have lm : (w.map (rsL nt (fL D nt y))).length = w.length := List.length_map ..
  have key : ∀ i, i ≤ cI A → ((hFo A (w.map (rsL nt (fL D nt y))) i).2.1 = 0 ∧ (hFo A (w.map (rsL nt (fL D nt y))) i).1 = w.length + 1 ∧ mFo A w nt (fL D nt y) i = (7, -2)) ∨ ((hFo A (w.map (rsL nt (fL D nt y))) i).1 = (mFo A w nt (fL D nt y) i).1 ∧ (hFo A (w.map (rsL nt (fL D nt y))) i).1 ≤ w.length ∧ (((hFo A (w.map (rsL nt (fL D nt y))) i).2.1 = 1 ∧ (mFo A w nt (fL D nt y) i).2 = (hFo A (w.map (rsL nt (fL D nt y))) i).2.2) ∨ (2 ≤ (hFo A (w.map (rsL nt (fL D nt y))) i).2.1 ∧ (mFo A w nt (fL D nt y) i).2 = -2))) := by
    intro i
    induction i with
    | zero => intro _; exact .inl ⟨rfl, by show (w.map (rsL nt (fL D nt y))).length + 1 = _; rw [lm], rfl⟩
    | succ i ih =>
      intro hi
      have ih := ih (by omega)
      show ((hSt A (w.map (rsL nt (fL D nt y))) i (hFo A (w.map (rsL nt (fL D nt y))) i)).2.1 = 0 ∧ (hSt A (w.map (rsL nt (fL D nt y))) i (hFo A (w.map (rsL nt (fL D nt y))) i)).1 = w.length + 1 ∧ mSt A w nt (fL D nt y) i (mFo A w nt (fL D nt y) i) = (7, -2)) ∨ ((hSt A (w.map (rsL nt (fL D nt y))) i (hFo A (w.map (rsL nt (fL D nt y))) i)).1 = (mSt A w nt (fL D nt y) i (mFo A w nt (fL D nt y) i)).1 ∧ (hSt A (w.map (rsL nt (fL D nt y))) i (hFo A (w.map (rsL nt (fL D nt y))) i)).1 ≤ w.length ∧ (((hSt A (w.map (rsL nt (fL D nt y))) i (hFo A (w.map (rsL nt (fL D nt y))) i)).2.1 = 1 ∧ (mSt A w nt (fL D nt y) i (mFo A w nt (fL D nt y) i)).2 = (hSt A (w.map (rsL nt (fL D nt y))) i (hFo A (w.map (rsL nt (fL D nt y))) i)).2.2) ∨ (2 ≤ (hSt A (w.map (rsL nt (fL D nt y))) i (hFo A (w.map (rsL nt (fL D nt y))) i)).2.1 ∧ (mSt A w nt (fL D nt y) i (mFo A w nt (fL D nt y) i)).2 = -2)))
      unfold hSt mSt
      rw [lm]
      by_cases z : (A.2.2.1 i).length = w.length
      · rw [if_pos z, if_pos z]
        have oS := hS i (by omega)
        have eu := unM_df b1 b2 hfl oS ow z w.length (Nat.le_refl _)
        rw [List.take_of_length_le (by omega), List.take_of_length_le (by omega)] at eu
        rw [eu]
        have dl := df_le (w.map (rsL nt (fL D nt y))) (A.2.2.1 i)
        rw [lm] at dl
        generalize df (w.map (rsL nt (fL D nt y))) (A.2.2.1 i) = u at dl ⊢
        generalize hFo A (w.map (rsL nt (fL D nt y))) i = s at ih ⊢
        generalize mFo A w nt (fL D nt y) i = t at ih ⊢
        obtain ⟨F, C, B⟩ := s
        obtain ⟨R, Q⟩ := t
        dsimp only at ih ⊢
        rcases ih with ⟨i1, i2, i3⟩ | ⟨i1, i2, i3⟩
        · cases i3
          rw [if_pos (by omega), if_neg (by omega), if_pos (by omega)]
          exact .inr ⟨rfl, dl, .inl ⟨rfl, rfl⟩⟩
        · subst i1
          by_cases z1 : u < F
          · rw [if_pos z1, if_neg (by omega), if_pos z1]
            exact .inr ⟨rfl, dl, .inl ⟨rfl, rfl⟩⟩
          · rw [if_neg z1]
            by_cases z2 : u = F
            · subst z2
              rw [if_pos rfl, if_neg (by omega), if_neg (by omega)]
              refine .inr ⟨rfl, dl, .inr ⟨?_, rfl⟩⟩
              dsimp only
              rcases i3 with ⟨c1, -⟩ | ⟨c1, -⟩ <;> omega
            · rw [if_neg z2, if_pos (by omega)]
              exact .inr ⟨rfl, i2, i3⟩
      · rw [if_neg z, if_neg z]
        exact ih
  have fin := key (cI A) (Nat.le_refl _)
  unfold hRe mRe
  rcases fin with ⟨i1, i2, i3⟩ | ⟨i1, i2, i3⟩
  · rw [i3, if_neg (fun q => by omega), if_neg (by dsimp only; omega)]
  · rw [← i1]
    by_cases z : (hFo A (w.map (rsL nt (fL D nt y))) (cI A)).1 ≤ E
    · rw [if_pos z]
      rcases i3 with ⟨c1, c2⟩ | ⟨c1, c2⟩
      · rw [if_pos ⟨c1, z⟩, c2]
      · rw [if_neg (fun q => by omega), c2]
    · rw [if_neg z, if_neg (fun q => z q.2)]
end HRM
/-! every number of a post is within its bounds -/
def loX (j : Nat) : Int := if 59 ≤ j ∧ j < 107 then 1 else if 127 ≤ j ∧ j < 159 ∧ (j - 127) % 4 = 2 then 1 else 0
def hiX (c j : Nat) : Int := if j = 1 then 3 else if j = 2 then 50 else if j = 3 then 100 else if j < 107 then (if (j - 59) % 4 = 2 then 99 else 15) else if j < 127 then (if (j - 107) % 4 = 0 then 3 else if (j - 107) % 4 = 1 then (c : Int) - 1 else 99) else if j < 159 then (if (j - 127) % 4 < 2 then (c : Int) - 1 else if (j - 127) % 4 = 2 then 99 else 9999) else (c : Int) - 1
def bdX (c : Nat) (S : Nat → List Int32) : Prop := ∀ j, S (1000 + j) = [] ∨ ∃ x, S (1000 + j) = [x] ∧ loX j ≤ x.toInt ∧ x.toInt ≤ hiX c j
def tB (A : pA) : Prop := bdX (cI A) A.2.2.1 ∧ (∀ k, k < cW A → (A.2.2.2.1 k).1 ≠ (A.2.2.2.1 k).2 ∧ (A.2.2.2.1 k).1 < cI A ∧ (A.2.2.2.1 k).2 < cI A) ∧ ∀ k, k < cS A → (A.2.2.2.2.1 k).1 < cH A ∧ 0 ≤ (A.2.2.2.2.1 k).2.toInt ∧ (A.2.2.2.2.1 k).2.toInt ≤ 9999
theorem hiX_up {c c' j : Nat} (h : c ≤ c') : hiX c j ≤ hiX c' j := by
  unfold hiX
  (repeat' split) <;> omega
theorem bdX.up {c c' : Nat} {S : Nat → List Int32} (k : bdX c S) (h : c ≤ c') : bdX c' S := fun j => (k j).imp id (fun ⟨x, e, a, b⟩ => ⟨x, e, a, Int.le_trans b (hiX_up h)⟩)
theorem bdX.add {c i : Nat} {S : Nat → List Int32} {v : Int32} (k : bdX c S) (hb : loX i ≤ v.toInt ∧ v.toInt ≤ hiX c i) : bdX c (xS S i v) := fun j => by
  rw [upX]
  by_cases z : j = i
  · rw [if_pos z, z]
    exact .inr ⟨v, rfl, hb⟩
  · rw [if_neg z]
    exact k j
theorem lh_le {i : Nat} {v a z : Int} {c : Nat} (l : loX i = a ∧ hiX c i = z) (h : a ≤ v ∧ v ≤ z) : loX i ≤ v ∧ v ≤ hiX c i := by
  rw [l.1, l.2]
  exact h
theorem lh_way2 {c k : Nat} (hk : k < 12) : loX (61 + 4 * k) = 1 ∧ hiX c (61 + 4 * k) = 99 := by
  refine ⟨?_, ?_⟩
  · unfold loX
    rw [if_pos (by omega)]
  · unfold hiX
    rw [if_neg (by omega), if_neg (by omega), if_neg (by omega), if_pos (by omega), if_pos (by omega)]
theorem lh_way3 {c k : Nat} (hk : k < 12) : loX (62 + 4 * k) = 1 ∧ hiX c (62 + 4 * k) = 15 := by
  refine ⟨?_, ?_⟩
  · unfold loX
    rw [if_pos (by omega)]
  · unfold hiX
    rw [if_neg (by omega), if_neg (by omega), if_neg (by omega), if_pos (by omega), if_neg (by omega)]
theorem lh_wh0 {c k : Nat} (hk : k < 5) : loX (107 + 4 * k) = 0 ∧ hiX c (107 + 4 * k) = 3 := by
  refine ⟨?_, ?_⟩
  · unfold loX
    rw [if_neg (by omega), if_neg (by omega)]
  · unfold hiX
    rw [if_neg (by omega), if_neg (by omega), if_neg (by omega), if_neg (by omega), if_pos (by omega), if_pos (by omega)]
theorem lh_wh1 {c k : Nat} (hk : k < 5) : loX (108 + 4 * k) = 0 ∧ hiX c (108 + 4 * k) = (c : Int) - 1 := by
  refine ⟨?_, ?_⟩
  · unfold loX
    rw [if_neg (by omega), if_neg (by omega)]
  · unfold hiX
    rw [if_neg (by omega), if_neg (by omega), if_neg (by omega), if_neg (by omega), if_pos (by omega), if_neg (by omega), if_pos (by omega)]
theorem lh_wh2 {c k : Nat} (hk : k < 5) : loX (109 + 4 * k) = 0 ∧ hiX c (109 + 4 * k) = 99 := by
  refine ⟨?_, ?_⟩
  · unfold loX
    rw [if_neg (by omega), if_neg (by omega)]
  · unfold hiX
    rw [if_neg (by omega), if_neg (by omega), if_neg (by omega), if_neg (by omega), if_pos (by omega), if_neg (by omega), if_neg (by omega)]
theorem lh_wh3 {c k : Nat} (hk : k < 5) : loX (110 + 4 * k) = 0 ∧ hiX c (110 + 4 * k) = 99 := by
  refine ⟨?_, ?_⟩
  · unfold loX
    rw [if_neg (by omega), if_neg (by omega)]
  · unfold hiX
    rw [if_neg (by omega), if_neg (by omega), if_neg (by omega), if_neg (by omega), if_pos (by omega), if_neg (by omega), if_neg (by omega)]
theorem lh_bo0 {c k : Nat} (hk : k < 8) : loX (127 + 4 * k) = 0 ∧ hiX c (127 + 4 * k) = (c : Int) - 1 := by
  refine ⟨?_, ?_⟩
  · unfold loX
    rw [if_neg (by omega), if_neg (by omega)]
  · unfold hiX
    rw [if_neg (by omega), if_neg (by omega), if_neg (by omega), if_neg (by omega), if_neg (by omega), if_pos (by omega), if_pos (by omega)]
theorem lh_bo1 {c k : Nat} (hk : k < 8) : loX (128 + 4 * k) = 0 ∧ hiX c (128 + 4 * k) = (c : Int) - 1 := by
  refine ⟨?_, ?_⟩
  · unfold loX
    rw [if_neg (by omega), if_neg (by omega)]
  · unfold hiX
    rw [if_neg (by omega), if_neg (by omega), if_neg (by omega), if_neg (by omega), if_neg (by omega), if_pos (by omega), if_pos (by omega)]
theorem lh_bo2 {c k : Nat} (hk : k < 8) : loX (129 + 4 * k) = 1 ∧ hiX c (129 + 4 * k) = 99 := by
  refine ⟨?_, ?_⟩
  · unfold loX
    rw [if_neg (by omega), if_pos (by omega)]
  · unfold hiX
    rw [if_neg (by omega), if_neg (by omega), if_neg (by omega), if_neg (by omega), if_neg (by omega), if_pos (by omega), if_neg (by omega), if_pos (by omega)]
theorem lh_bo3 {c k : Nat} (hk : k < 8) : loX (130 + 4 * k) = 0 ∧ hiX c (130 + 4 * k) = 9999 := by
  refine ⟨?_, ?_⟩
  · unfold loX
    rw [if_neg (by omega), if_neg (by omega)]
  · unfold hiX
    rw [if_neg (by omega), if_neg (by omega), if_neg (by omega), if_neg (by omega), if_neg (by omega), if_pos (by omega), if_neg (by omega), if_neg (by omega)]
theorem lh_sp {c k : Nat} (hk : k < 8) : loX (160 + 3 * k) = 0 ∧ hiX c (160 + 3 * k) = (c : Int) - 1 := by
  refine ⟨?_, ?_⟩
  · unfold loX
    rw [if_neg (by omega), if_neg (by omega)]
  · unfold hiX
    rw [if_neg (by omega), if_neg (by omega), if_neg (by omega), if_neg (by omega), if_neg (by omega), if_neg (by omega)]
section RD8
variable {y : Nat → Int32} {n p q : Nat} {A A' : pA} {nm : Nat → List Int32}
theorem inr_tB {r : sR} {B : pA} {q' : Nat} (e : (Sum.inr (B, q') : sR) = .inr (A', q)) (k : tB B) : tB A' := by
  have := congrArg Prod.fst (Sum.inr.inj e)
  dsimp only at this
  rw [← this]
  exact k
theorem sNum_b {lo hi x : Int32} (e : sNum y n lo hi p = .inr (x, q)) : lo.toInt ≤ x.toInt ∧ x.toInt ≤ hi.toInt := by
  unfold sNum at e
  split at e
  · split at e
    · next z =>
      have e := congrArg Prod.fst (Sum.inr.inj e)
      dsimp only at e
      rw [← e]
      exact ⟨Int32.le_iff_toInt_le.mp z.1, Int32.le_iff_toInt_le.mp z.2⟩
    · cases e
  · cases e
theorem sWN_b {bs : List Int32} {lo hi x : Int32} (e : sWN y n bs lo hi p = .inr (x, q)) : lo.toInt ≤ x.toInt ∧ x.toInt ≤ hi.toInt := by
  unfold sWN at e
  split at e
  · cases e
  · exact sNum_b e
theorem sOld_in {lo hi x : Nat} (hp : p ≤ n) (e : sOld y n nm lo hi p = .inr (x, q)) : ∃ i, i < 20 ∧ lo ≤ i ∧ i ≤ hi ∧ x = i - lo ∧ nm i ≠ [] := by
  unfold sOld at e
  split at e
  · next nb =>
    split at e
    · next i hi2 =>
      split at e
      · next z =>
        have e := congrArg Prod.fst (Sum.inr.inj e)
        dsimp only at e
        have ht : tT y n p = 2 := by
          unfold isNb at nb
          simp only [Bool.and_eq_true, decide_eq_true_eq] at nb
          exact nb.1
        have hi2 : (List.range 20).find? (fun i => decide (nm i = tW y n p)) = some i := hi2
        have h0 : decide (nm i = tW y n p) = true := List.find?_some (p := fun i => decide (nm i = tW y n p)) hi2
        have h1 := of_decide_eq_true h0
        refine ⟨i, List.mem_range.mp (List.mem_of_find?_eq_some hi2), z.1, z.2, e.symm, ?_⟩
        rw [h1]
        exact (tW_ok hp ht).2.2
      · cases e
    · cases e
  · cases e
theorem sOld_isl {x : Nat} (hI : pI A) (hp : p ≤ n) (hn : ∀ i, i < 7 → nm i = A.2.1 i) (e : sOld y n nm 0 6 p = .inr (x, q)) : x < cI A := by
  obtain ⟨i, h1, h2, h3, h4, h5⟩ := sOld_in hp e
  rw [hn i (by omega)] at h5
  rcases (hI.2.2.2.1 i h1).mp h5 with z | z | z <;> omega
theorem sOld_wha {x : Nat} (hI : pI A) (hp : p ≤ n) (e : sOld y n A.2.1 7 11 p = .inr (x, q)) : x < cH A := by
  obtain ⟨i, h1, h2, h3, h4, h5⟩ := sOld_in hp e
  have b1 := hI.2.2.1.1
  rcases (hI.2.2.2.1 i h1).mp h5 with z | z | z <;> omega
theorem sHead_tB (hI : pI A) (k : tB A) (h0 : A.1 = 0) (e : sHead y n A p = .inr (A', q)) : tB A' := by
  have z := hI.2.1 h0
  unfold sHead at e
  split at e
  · cases e
  split at e
  · cases e
  next u p2 e2 =>
  split at e
  · cases e
  next v p3 e3 =>
  split at e
  · cases e
  next w p4 e4 =>
  have b2 := sWN_b e2
  have b3 := sWN_b e3
  have b4 := sWN_b e4
  rw [show (0 : Int32).toInt = 0 by decide, show (3 : Int32).toInt = 3 by decide] at b2
  rw [show (0 : Int32).toInt = 0 by decide, show (50 : Int32).toInt = 50 by decide] at b3
  rw [show (0 : Int32).toInt = 0 by decide, show (100 : Int32).toInt = 100 by decide] at b4
  refine inr_tB (r := .inl (0, 0)) e ⟨((k.1.add (i := 1) ⟨by rw [show loX 1 = 0 by decide]; exact b2.1, by rw [show hiX (cI A) 1 = 3 from if_pos rfl]; exact b2.2⟩).add (i := 2) ⟨by rw [show loX 2 = 0 by decide]; exact b3.1, by rw [show hiX (cI A) 2 = 50 from (if_neg (by decide)).trans (if_pos rfl)]; exact b3.2⟩).add (i := 3) ⟨by rw [show loX 3 = 0 by decide]; exact b4.1, by rw [show hiX (cI A) 3 = 100 from (if_neg (by decide)).trans ((if_neg (by decide)).trans (if_pos rfl))]; exact b4.2⟩, fun k hk => ?_, fun k hk => ?_⟩
  · have hk : k < cW A := hk
    omega
  · have hk : k < cS A := hk
    omega
theorem sIsland_tB (k : tB A) (hi : cI A < 7) (e : sIsland y n A p = .inr (A', q)) : tB A' := by
  obtain ⟨k1, k2, k3⟩ := k
  unfold sIsland at e
  split at e
  · cases e
  split at e
  · split at e
    · split at e
      · cases e
      · refine inr_tB (r := .inl (0, 0)) e ⟨fun j => ?_, fun k hk => ?_, k3⟩
        · show upA A.2.2.1 (cI A) _ (1000 + j) = [] ∨ ∃ x, upA A.2.2.1 (cI A) _ (1000 + j) = [x] ∧ loX j ≤ x.toInt ∧ x.toInt ≤ hiX (cI A + 1) j
          rw [upI_hi (by omega)]
          exact (k1.up (Nat.le_succ _)) j
        · obtain ⟨a, b, c⟩ := k2 k hk
          exact ⟨a, Nat.lt_succ_of_lt b, Nat.lt_succ_of_lt c⟩
    · cases e
  · cases e
theorem sWay_tB (hI : pI A) (hp : p ≤ n) (hW : cW A < 12) (k : tB A) (e : sWay y n A p = .inr (A', q)) : tB A' := by
  have hW' : A.2.2.2.2.2.2.1 < 12 := hW
  obtain ⟨k1, k2, k3⟩ := k
  unfold sWay at e
  split at e
  · cases e
  next a p1 e1 =>
  have g1 := sOld_ge hp e1
  split at e
  · cases e
  next b p2 e2 =>
  split at e
  · cases e
  next hab =>
  split at e
  · cases e
  next u p3 e3 =>
  split at e
  · cases e
  next v p4 e4 =>
  have b3 := sWN_b e3
  have b4 := sWN_b e4
  rw [show (1 : Int32).toInt = 1 by decide, show (99 : Int32).toInt = 99 by decide] at b3
  rw [show (1 : Int32).toInt = 1 by decide, show (15 : Int32).toInt = 15 by decide] at b4
  have i1 := sOld_isl hI hp (fun _ _ => rfl) e1
  have i2 := sOld_isl hI g1.2 (fun _ _ => rfl) e2
  refine inr_tB (r := .inl (0, 0)) e ⟨(k1.add ?_).add ?_, fun j hj => ?_, k3⟩
  · exact lh_le (lh_way2 hW') b3
  · exact lh_le (lh_way3 hW') b4
  · have hj : j < cW A + 1 := hj
    show (upA A.2.2.2.1 (cW A) (a, b) j).1 ≠ (upA A.2.2.2.1 (cW A) (a, b) j).2 ∧ (upA A.2.2.2.1 (cW A) (a, b) j).1 < cI A ∧ (upA A.2.2.2.1 (cW A) (a, b) j).2 < cI A
    rw [upA_at]
    by_cases z : j = cW A
    · rw [if_pos z]
      exact ⟨fun w => hab (.inl w), i1, i2⟩
    · rw [if_neg z]
      exact k2 j (by omega)
theorem kdV_b : 0 ≤ (kdV y n p).toInt ∧ (kdV y n p).toInt ≤ 3 := by
  unfold kdV
  split
  · decide
  · split
    · decide
    · split <;> decide
theorem sWhale_tB (hI : pI A) (hp : p ≤ n) (hH : cH A < 5) (k : tB A) (e : sWhale y n A p = .inr (A', q)) : tB A' := by
  have hH' : A.2.2.2.2.2.2.2.1 < 5 := hH
  obtain ⟨k1, k2, k3⟩ := k
  have bI := hI.2.2.1.1
  unfold sWhale at e
  split at e
  · cases e
  next q1 e1 =>
  have g1 := sNew_ge hp e1
  split at e
  · split at e
    · cases e
    next r1 e2 =>
    have g2 := sWord_ge (tE_ge g1.2).2 e2
    split at e
    · cases e
    next a r2 e3 =>
    have i1 := sOld_isl hI g2.2 (fun i hi => by rw [upA_at, if_neg (by omega)]) e3
    split at e
    · cases e
    next u r3 e4 =>
    split at e
    · cases e
    next v r4 e5 =>
    have b4 := sWN_b e4
    have b5 := sWN_b e5
    rw [show (0 : Int32).toInt = 0 by decide, show (99 : Int32).toInt = 99 by decide] at b4 b5
    have kd := kdV_b (y := y) (n := n) (p := q1)
    refine inr_tB (r := .inl (0, 0)) e ⟨(((k1.add ?_).add ?_).add ?_).add ?_, k2, fun j hj => ?_⟩
    · exact lh_le (lh_wh0 hH') kd
    · exact lh_le (lh_wh1 hH') (by rw [nI_toInt (by omega)]; omega)
    · exact lh_le (lh_wh2 hH') b4
    · exact lh_le (lh_wh3 hH') b5
    · obtain ⟨a, b⟩ := k3 j hj
      exact ⟨Nat.lt_succ_of_lt a, b⟩
  · cases e
theorem sBox_tB (hI : pI A) (hp : p ≤ n) (hB : cB A < 8) (k : tB A) (e : sBox y n A p = .inr (A', q)) : tB A' := by
  have hB' : A.2.2.2.2.2.2.2.2.1 < 8 := hB
  obtain ⟨k1, k2, k3⟩ := k
  have bI := hI.2.2.1.1
  unfold sBox at e
  split at e
  · cases e
  next q1 e1 =>
  have g1 := sNew_ge hp e1
  split at e
  · cases e
  next r1 e2 =>
  have g2 := sWord_ge g1.2 e2
  split at e
  · cases e
  next a r2 e3 =>
  have g3 := sOld_ge g2.2 e3
  have i1 := sOld_isl hI g2.2 (fun i hi => by rw [upA_at, if_neg (by omega)]) e3
  split at e
  · cases e
  next r3 e4 =>
  have g4 := sWord_ge g3.2 e4
  split at e
  · cases e
  next b r4 e5 =>
  have i2 := sOld_isl hI g4.2 (fun i hi => by rw [upA_at, if_neg (by omega)]) e5
  split at e
  · cases e
  next u r5 e6 =>
  split at e
  · cases e
  next v r6 e7 =>
  have b6 := sWN_b e6
  have b7 := sWN_b e7
  rw [show (1 : Int32).toInt = 1 by decide, show (99 : Int32).toInt = 99 by decide] at b6
  rw [show (0 : Int32).toInt = 0 by decide, show (9999 : Int32).toInt = 9999 by decide] at b7
  refine inr_tB (r := .inl (0, 0)) e ⟨(((k1.add ?_).add ?_).add ?_).add ?_, k2, k3⟩
  · exact lh_le (lh_bo0 hB') (by rw [nI_toInt (by omega)]; omega)
  · exact lh_le (lh_bo1 hB') (by rw [nI_toInt (by omega)]; omega)
  · exact lh_le (lh_bo2 hB') b6
  · exact lh_le (lh_bo3 hB') b7
theorem least_ge {sp : Nat → Nat × Int32} {w : Nat} : ∀ m, (∀ j, j < m → 0 ≤ (sp j).2.toInt ∧ (sp j).2.toInt ≤ 9999) → 0 ≤ (least sp w m).toInt
  | 0, _ => by
    show 0 ≤ (0 : Int32).toInt
    decide
  | m + 1, h => by
    show 0 ≤ (if (sp m).1 = w then (sp m).2 + 1 else least sp w m).toInt
    split
    · have := h m (Nat.lt_succ_self m)
      rw [Int32.toInt_add, show (1 : Int32).toInt = 1 by decide, bmod_fit (by omega) (by omega)]
      omega
    · exact least_ge m (fun j hj => h j (Nat.lt_succ_of_lt hj))
theorem sSpout_tB (hI : pI A) (hp : p ≤ n) (hS : cS A < 8) (k : tB A) (e : sSpout y n A p = .inr (A', q)) : tB A' := by
  have hS' : A.2.2.2.2.2.2.2.2.2 < 8 := hS
  obtain ⟨k1, k2, k3⟩ := k
  have bI := hI.2.2.1.1
  unfold sSpout at e
  split at e
  · cases e
  next w q1 e1 =>
  have g1 := sOld_ge hp e1
  have i1 := sOld_wha hI hp e1
  split at e
  · cases e
  next i q2 e2 =>
  have i2 := sOld_isl hI g1.2 (fun _ _ => rfl) e2
  split at e
  · cases e
  next g q3 e3 =>
  have b3 := sWN_b e3
  have lg := least_ge (sp := A.2.2.2.2.1) (w := w) (cS A) (fun j hj => (k3 j hj).2)
  rw [show (9999 : Int32).toInt = 9999 by decide] at b3
  refine inr_tB (r := .inl (0, 0)) e ⟨k1.add ?_, k2, fun j hj => ?_⟩
  · exact lh_le (lh_sp hS') (by rw [nI_toInt (by omega)]; omega)
  · have hj : j < cS A + 1 := hj
    show (upA A.2.2.2.2.1 (cS A) (w, g) j).1 < cH A ∧ 0 ≤ (upA A.2.2.2.2.1 (cS A) (w, g) j).2.toInt ∧ (upA A.2.2.2.2.1 (cS A) (w, g) j).2.toInt ≤ 9999
    rw [upA_at]
    by_cases z : j = cS A
    · rw [if_pos z]
      have lg2 : (least A.2.2.2.2.1 w (cS A)).toInt ≤ g.toInt := b3.1
      exact ⟨i1, by dsimp only; omega, b3.2⟩
    · rw [if_neg z]
      exact k3 j (by omega)
theorem sLine_tB (hI : pI A) (hp : p ≤ n) (k : tB A) (e : sLine y n A p = .inr (A', q)) : tB A' := by
  have h2 := (tE_ge (y := y) hp).2
  unfold sLine at e
  split at e
  · split at e
    · next h0 => exact sHead_tB hI k h0 e
    · cases e
  split at e
  · split at e
    · cases e
    split at e
    · next h7 => exact sIsland_tB k h7 e
    · cases e
  split at e
  · split at e
    · cases e
    split at e
    · next h7 => exact sWay_tB hI h2 h7 k e
    · cases e
  split at e
  · split at e
    · cases e
    split at e
    · next h7 => exact sWhale_tB hI h2 h7 k e
    · cases e
  split at e
  · split at e
    · cases e
    split at e
    · next h7 => exact sBox_tB hI h2 h7 k e
    · cases e
  split at e
  · split at e
    · cases e
    split at e
    · next h7 => exact sSpout_tB hI h2 h7 k e
    · cases e
  · cases e
theorem sText_tB : ∀ (f : Nat) (A : pA) (p : Nat) {B : pA}, pI A → tB A → p ≤ n → sText y n f A p = .inr B → tB B := by
  intro f
  induction f with
  | zero => intro A p B _ _ _ e; cases e
  | succ f ih =>
    intro A p B hI k hp e
    rw [sText_fin] at e
    cases er : sLine y n A p with
    | inl z =>
      rw [er] at e
      cases e
    | inr z =>
      obtain ⟨A', q'⟩ := z
      rw [er] at e
      have k' := sLine_tB hI hp k er
      have hI' := sLine_pI hI hp er
      have ge := sLine_ge hp er
      unfold sFin at e
      dsimp only at e
      split at e
      · split at e
        · cases e
        · cases e
          exact k'
      · split at e
        · next t59 => exact ih A' _ hI' k' (t59_gt (y := y) ge.2 t59).2 e
        · cases e
theorem tB_0 : tB pA0 := ⟨fun j => .inl rfl, fun k hk => absurd hk (Nat.not_lt_zero k), fun k hk => absurd hk (Nat.not_lt_zero k)⟩
end RD8
/-! what is now: a state, as the class and as the reference hold it -/
/-- year, closed ways, whales' islands and days, boxes' days and islands, songs -/
abbrev nS : Type := Nat × Int32 × (Nat → Nat) × (Nat → Nat) × (Nat → Option (Nat × Nat)) × (Nat → List Int32)
def sDy : Option (Nat × Nat) → Int32
  | some p => nI p.1
  | none => -2
def sGo : Option (Nat × Nat) → Int32
  | some p => nI p.2
  | none => -2
def tDy : Option (Nat × Nat) → Int32
  | some p => nI (p.1 + 1)
  | none => 0
def tGo : Option (Nat × Nat) → Int32
  | some p => nI (p.2 + 1)
  | none => 0
def nC (A : pA) (s : nS) (q : Nat) (h : zH) : Prop := h.2.1 q 0 = nI s.1 ∧ h.2.1 q 1 = s.2.1 ∧ (∀ w, w < cH A → h.2.1 (q + 1) w = nI (s.2.2.1 w) ∧ h.2.1 (q + 2) w = nI (s.2.2.2.1 w)) ∧ ∀ b, b < cB A → h.2.1 (q + 3) b = sDy (s.2.2.2.2.1 b) ∧ h.2.1 (q + 4) b = sGo (s.2.2.2.2.1 b) ∧ h.2.1 (q + 5) b = codeS (s.2.2.2.2.2 b)
def nMo (A : pA) (s : nS) (q o : Nat) (h : zH) : Prop := h.2.1 q o = nI s.1 ∧ h.2.1 q (o + 1) = s.2.1 ∧ (∀ w, w < cH A → h.2.1 q (o + (2 + w)) = nI (s.2.2.1 w) ∧ h.2.1 q (o + (7 + w)) = nI (s.2.2.2.1 w)) ∧ ∀ b, b < cB A → h.2.1 q (o + (12 + b)) = tDy (s.2.2.2.2.1 b) ∧ h.2.1 q (o + (20 + b)) = tGo (s.2.2.2.2.1 b) ∧ ∀ k, k < (s.2.2.2.2.2 b).length → h.2.1 q (o + (28 + 6 * b + k)) = nI (dg ((s.2.2.2.2.2 b).getD k 0))
/-- numbers that were told -/
def vA (A : pA) (j : Nat) : Int32 := (A.2.2.1 (1000 + j)).getD 0 0
def nu (A : pA) (j : Nat) : Nat := (vA A j).toInt.toNat
def ntA (A : pA) : Nat := A.1.toInt.toNat
def wa (A : pA) (k : Nat) : Nat := (A.2.2.2.1 k).1
def wb (A : pA) (k : Nat) : Nat := (A.2.2.2.1 k).2
def dyA (A : pA) (k : Nat) : Nat := if k < cW A then nu A (61 + 4 * k) else 1
def opA (A : pA) (k : Nat) : Int32 := if k < cW A then vA A (62 + 4 * k) else 15
def kdA (A : pA) (w : Nat) : Int32 := vA A (107 + 4 * w)
def lB (A : pA) (b : Nat) : Nat := (A.2.2.1 (nu A (128 + 4 * b))).length
/-- how many boxes are sent -/
def nSn (s : nS) : Nat → Nat
  | 0 => 0
  | b + 1 => nSn s b + (match s.2.2.2.2.1 b with | some _ => 1 | none => 0)
def nOK (A : pA) (s : nS) : Prop := s.1 ≤ 9999 ∧ (∀ w, w < cH A → s.2.2.1 w < cI A ∧ s.2.2.2.1 w ≤ 88722 * nSn s (cB A)) ∧ ∀ b, b < cB A → okN (ntA A) (s.2.2.2.2.2 b) ∧ (s.2.2.2.2.2 b).length = lB A b ∧ ∀ p, s.2.2.2.2.1 b = some p → p.2 < cI A ∧ p.1 ≤ 88722 * nSn s (cB A)
/-- who brings a box: the days on which it is taken and there, and where -/
def dyG (A : pA) (kd cl : Int32) (fm : Nat) : gW := gD (cW A) (wa A) (wb A) (okW cl kd (wa A) (wb A) fm) kd (opA A) (dyA A)
def dyD (A : pA) (kd cl : Int32) (fm x0 : Nat) : gX := dLp (dyG A kd cl fm) (cI A) (cI A) (gB fm x0) (fun _ => false)
def heA (A : pA) (w : List Int32) (y : Nat) : Int32 := mRe (nu A 1) (mFo A w (ntA A) (fL (nu A 2) (ntA A) y) (cI A))
def brG (A : pA) (s : nS) (w b : Nat) (gl : Int32) : Option (Nat × Nat × Nat) := if gl = -2 then none else match dyD A (kdA A w) s.2.1 (s.2.2.1 w) (s.2.2.2.1 w) (nu A (127 + 4 * b)) with
  | none => none
  | some x => match dyD A (kdA A w) s.2.1 (nu A (127 + 4 * b)) (max x (nu A (130 + 4 * b))) gl.toInt.toNat with
    | none => none
    | some z => some (max x (nu A (130 + 4 * b)), z, gl.toInt.toNat)
def brV (A : pA) (s : nS) (w b : Nat) : Option (Nat × Nat × Nat) := match s.2.2.2.2.1 b with
  | some _ => none
  | none => if (zcc (kdA A w).toInt.toNat).toInt < (vA A (129 + 4 * b)).toInt then none else brG A s w b (heA A (s.2.2.2.2.2 b) s.1)
def brR (A : pA) (w : Nat) : Option (Nat × Nat × Nat) → Int32
  | none => -2
  | some p => nI (p.2.1 + nu A (109 + 4 * w))
section NWS
variable {d N c i k w b j : Nat} {h g : zH} {A : pA} {s : nS}
theorem tA.way (hT : tA A) (hk : k < cW A) : A.2.2.1 (1000 + (61 + 4 * k)) ≠ [] ∧ A.2.2.1 (1000 + (62 + 4 * k)) ≠ [] := hT.2.1 k hk
theorem nu_at (hB : tB A) (hT : A.2.2.1 (1000 + j) ≠ []) : vA A j = nI (nu A j) ∧ loX j ≤ (nu A j : Int) ∧ (nu A j : Int) ≤ hiX (cI A) j ∧ (vA A j).toInt = nu A j := by
  rcases hB.1 j with e | ⟨x, e, a, z⟩
  · exact absurd e hT
  · have ev : vA A j = x := by
      unfold vA
      rw [e]
      rfl
    have h0 : 0 ≤ loX j := by
      unfold loX
      (repeat' split) <;> decide
    have en : ((nu A j : Nat) : Int) = x.toInt := by
      unfold nu
      rw [ev]
      omega
    have hr := i32_rg x
    refine ⟨?_, by omega, by omega, by rw [ev]; exact en.symm⟩
    rw [ev]
    refine Int32.toInt_inj.mp ?_
    rw [nI_toInt (by omega)]
    exact en.symm
theorem hiX_way2 : hiX i (61 + 4 * k) ≤ 99 ∨ 12 ≤ k := by
  unfold hiX
  (repeat' split) <;> omega
theorem num_way (hI : pI A) (hB : tB A) (hT : tA A) (hk : k < cW A) : 1 ≤ nu A (61 + 4 * k) ∧ nu A (61 + 4 * k) ≤ 99 ∧ 1 ≤ (vA A (62 + 4 * k)).toInt ∧ (vA A (62 + 4 * k)).toInt ≤ 15 := by
  obtain ⟨b1, b2, b3, b4, b5⟩ := hI.2.2.1
  obtain ⟨t1, t2⟩ := hT.2.1 k hk
  obtain ⟨-, a2, a3, -⟩ := nu_at hB t1
  obtain ⟨-, c2, c3, c4⟩ := nu_at hB t2
  unfold loX at a2 c2
  unfold hiX at a3 c3
  refine ⟨?_, ?_, ?_, ?_⟩
  · rw [if_pos (by omega)] at a2
    omega
  · rw [if_neg (by omega), if_neg (by omega), if_neg (by omega), if_pos (by omega), if_pos (by omega)] at a3
    omega
  · rw [if_pos (by omega)] at c2
    omega
  · rw [if_neg (by omega), if_neg (by omega), if_neg (by omega), if_pos (by omega), if_neg (by omega)] at c3
    omega
theorem num_whale (hI : pI A) (hB : tB A) (hT : tA A) (hw : w < cH A) : (0 ≤ (kdA A w).toInt ∧ (kdA A w).toInt ≤ 3) ∧ nu A (108 + 4 * w) < cI A ∧ nu A (109 + 4 * w) ≤ 99 ∧ nu A (110 + 4 * w) ≤ 99 ∧ ∀ j, j < 4 → vA A (107 + 4 * w + j) = nI (nu A (107 + 4 * w + j)) := by
  obtain ⟨b1, b2, b3, b4, b5⟩ := hI.2.2.1
  have t := hT.2.2.1 w hw
  obtain ⟨-, a2, a3, a4⟩ := nu_at hB (t 0 (by decide))
  obtain ⟨-, c2, c3, -⟩ := nu_at hB (t 1 (by decide))
  obtain ⟨-, d2, d3, -⟩ := nu_at hB (t 2 (by decide))
  obtain ⟨-, e2, e3, -⟩ := nu_at hB (t 3 (by decide))
  rw [show 107 + 4 * w + 1 = 108 + 4 * w by omega] at c2 c3
  rw [show 107 + 4 * w + 2 = 109 + 4 * w by omega] at d2 d3
  rw [show 107 + 4 * w + 3 = 110 + 4 * w by omega] at e2 e3
  have a4 : (kdA A w).toInt = nu A (107 + 4 * w) := a4
  have a3 : (nu A (107 + 4 * w) : Int) ≤ hiX (cI A) (107 + 4 * w) := a3
  unfold hiX at a3 c3 d3 e3
  rw [if_neg (by omega), if_neg (by omega), if_neg (by omega), if_neg (by omega), if_pos (by omega)] at a3 c3 d3 e3
  rw [if_pos (by omega)] at a3
  rw [if_neg (by omega), if_pos (by omega)] at c3
  rw [if_neg (by omega), if_neg (by omega)] at d3 e3
  exact ⟨by omega, by omega, by omega, by omega, fun j hj => (nu_at hB (t j hj)).1⟩
theorem num_box (hI : pI A) (hB : tB A) (hT : tA A) (hb : b < cB A) : nu A (127 + 4 * b) < cI A ∧ nu A (128 + 4 * b) < cI A ∧ (1 ≤ nu A (129 + 4 * b) ∧ nu A (129 + 4 * b) ≤ 99) ∧ nu A (130 + 4 * b) ≤ 9999 ∧ ∀ j, j < 4 → vA A (127 + 4 * b + j) = nI (nu A (127 + 4 * b + j)) := by
  obtain ⟨b1, b2, b3, b4, b5⟩ := hI.2.2.1
  have t := hT.2.2.2.1 b hb
  obtain ⟨-, a2, a3, a4⟩ := nu_at hB (t 0 (by decide))
  obtain ⟨-, c2, c3, -⟩ := nu_at hB (t 1 (by decide))
  obtain ⟨-, d2, d3, -⟩ := nu_at hB (t 2 (by decide))
  obtain ⟨-, e2, e3, -⟩ := nu_at hB (t 3 (by decide))
  rw [show 127 + 4 * b + 1 = 128 + 4 * b by omega] at c2 c3
  rw [show 127 + 4 * b + 2 = 129 + 4 * b by omega] at d2 d3
  rw [show 127 + 4 * b + 3 = 130 + 4 * b by omega] at e2 e3
  have a3 : (nu A (127 + 4 * b) : Int) ≤ hiX (cI A) (127 + 4 * b) := a3
  unfold hiX at a3 c3 d3 e3
  unfold loX at d2
  rw [if_neg (by omega), if_neg (by omega), if_neg (by omega), if_neg (by omega), if_neg (by omega), if_pos (by omega)] at a3 c3 d3 e3
  rw [if_pos (by omega)] at a3 c3
  rw [if_neg (by omega), if_pos (by omega)] at d3
  rw [if_neg (by omega), if_neg (by omega)] at e3
  rw [if_neg (by omega), if_pos (by omega)] at d2
  exact ⟨by omega, by omega, by omega, by omega, fun j hj => (nu_at hB (t j hj)).1⟩
theorem op_ok : ∀ x : Nat, 1 ≤ x → x ≤ 15 → opK (nI x) := by
  have key : ∀ x, x < 16 → 1 ≤ x → ∀ r, r < 4 → opB (nI x) r = true ∨ opB (nI x) (r + 1) = true ∨ opB (nI x) (r + 2) = true ∨ opB (nI x) (r + 3) = true := by decide
  have md : ∀ (q : Int32) (s : Nat), opB q s = opB q (s % 4) := fun q s => by
    unfold opB
    rw [Nat.mod_mod]
  intro x h1 h2 s
  have := key x (by omega) h1 (s % 4) (Nat.mod_lt _ (by decide))
  rw [md _ s, md _ (s + 1), md _ (s + 2), md _ (s + 3)]
  rw [md _ (s % 4), md _ (s % 4 + 1), md _ (s % 4 + 2), md _ (s % 4 + 3)] at this
  rw [show (s + 1) % 4 = (s % 4 + 1) % 4 by omega, show (s + 2) % 4 = (s % 4 + 2) % 4 by omega, show (s + 3) % 4 = (s % 4 + 3) % 4 by omega]
  rw [show s % 4 % 4 = s % 4 by omega] at this
  exact this
theorem opA_ok (hI : pI A) (hB : tB A) (hT : tA A) (k : Nat) : opK (opA A k) ∧ 1 ≤ dyA A k ∧ (k < cW A → dyA A k ≤ 99) := by
  unfold opA dyA
  by_cases z : k < cW A
  · obtain ⟨n1, n2, n3, n4⟩ := num_way hI hB hT z
    rw [if_pos z, if_pos z]
    refine ⟨?_, n1, fun _ => n2⟩
    rw [(nu_at hB (hT.2.1 k z).2).1]
    have e := (nu_at hB (hT.2.1 k z).2).2.2.2
    exact op_ok _ (by omega) (by omega)
  · rw [if_neg z, if_neg z]
    exact ⟨op_ok 15 (by decide) (by decide), Nat.le_refl 1, fun q => absurd q z⟩
theorem dyG_R (hI : pI A) (hB : tB A) (hT : tA A) (kd cl : Int32) (fm : Nat) : gR (dyG A kd cl fm) := gD_R (fun k => (opA_ok hI hB hT k).1) (fun k => (opA_ok hI hB hT k).2.1)
theorem wab (hB : tB A) : ∀ k, k < cW A → wa A k ≠ wb A k ∧ wa A k < cI A ∧ wb A k < cI A := hB.2.1
/-- days: bounds -/
theorem dyD_le (hI : pI A) (hB : tB A) (hT : tA A) {kd cl : Int32} {fm x0 i x : Nat} (e : dyD A kd cl fm x0 i = some x) : x ≤ x0 + 39312 := by
  have b1 := hI.2.2.1.1
  have := dLp_M (G := dyG A kd cl fm) (n := cI A) (fun k x hk => gT_hi ((opA_ok hI hB hT k).2.2 hk)) hI.2.2.1.2.1 (cI A) (gB fm x0) (fun _ => false) x0 gB_M i x e
  omega
theorem dyD_lt (hB : tB A) (hI : pI A) (hT : tA A) {kd cl : Int32} {fm x0 i x : Nat} (hf : fm < cI A) (e : dyD A kd cl fm x0 i = some x) : i < cI A := by
  obtain ⟨-, dS, -, -⟩ := dij_ok (G := dyG A kd cl fm) (n := cI A) (fr := fm) (dy := x0) (dyG_R hI hB hT kd cl fm) (wab hB) hf
  obtain ⟨t, ht⟩ := dS i x e
  have : ∀ t i x, gN (dyG A kd cl fm) fm x0 t i x → i < cI A := by
    intro t
    induction t with
    | zero => intro i x h; rw [h.1]; exact hf
    | succ t ih =>
      intro i x h
      rcases h with h | ⟨j, z, k, h, hE, -⟩
      · exact ih i x h
      · obtain ⟨hk, -, hE⟩ := hE
        have := wab hB k hk
        rcases hE with ⟨-, e2⟩ | ⟨-, e2⟩
        · rw [← e2]
          exact this.2.2
        · rw [← e2]
          exact this.2.1
  exact this t i x ht
theorem mFo_i (A : pA) (w : List Int32) (nt f : Nat) : ∀ i, (mFo A w nt f i).2 = -2 ∨ ∃ q, q < i ∧ (mFo A w nt f i).2 = nI q
  | 0 => .inl rfl
  | i + 1 => by
    have ih := mFo_i A w nt f i
    have old : (mFo A w nt f i).2 = -2 ∨ ∃ q, q < i + 1 ∧ (mFo A w nt f i).2 = nI q := ih.imp id (fun ⟨q, a, b⟩ => ⟨q, Nat.lt_succ_of_lt a, b⟩)
    show (mSt A w nt f i (mFo A w nt f i)).2 = -2 ∨ ∃ q, q < i + 1 ∧ (mSt A w nt f i (mFo A w nt f i)).2 = nI q
    unfold mSt
    split
    · split
      · exact old
      · dsimp only
        split
        · exact .inr ⟨i, Nat.lt_succ_self i, rfl⟩
        · exact .inl rfl
    · exact old
theorem heA_i (hI : pI A) (w : List Int32) (y : Nat) : heA A w y = -2 ∨ ∃ q, q < cI A ∧ heA A w y = nI q ∧ (heA A w y).toInt.toNat = q ∧ heA A w y ≠ -2 ∧ 0 ≤ (heA A w y).toInt := by
  have b1 := hI.2.2.1.1
  have key : ∀ v : Int32, (v = -2 ∨ ∃ q, q < cI A ∧ v = nI q) → v = -2 ∨ ∃ q, q < cI A ∧ v = nI q ∧ v.toInt.toNat = q ∧ v ≠ -2 ∧ 0 ≤ v.toInt := fun v hv => hv.imp id (fun ⟨q, hq, e⟩ => by
    have et : v.toInt = q := by rw [e, nI_toInt (by omega)]
    refine ⟨q, hq, e, by omega, fun z => ?_, by omega⟩
    have := congrArg Int32.toInt z
    rw [et, show (-2 : Int32).toInt = -2 by decide] at this
    omega)
  refine key _ ?_
  unfold heA mRe
  split
  · exact mFo_i A w _ _ (cI A)
  · exact .inl rfl
end NWS
theorem lt_i {x y : Int32} : x < y ↔ x.toInt < y.toInt := Int32.lt_iff_toInt_lt
