/-! tune: a note of a song is set -/
theorem wN_1 : ∀ j, j < 6 → ∀ n, n < 4 → ((nI 3 <<< (nI (2 * j) &&& 31)) ^^^ (-1)).toBitVec.toNat = 4294967295 - 3 * 4 ^ j ∧ (nI n <<< (nI (2 * j) &&& 31)).toBitVec.toNat = n * 4 ^ j := by decide +kernel
theorem wN_2a : ∀ j, j < 6 → ∀ a, a < 64 → ∀ b, b < 64 → (64 * a + b) &&& (4294967295 - 3 * 4 ^ j) = (64 * a + b) / 4 ^ (j + 1) * 4 ^ (j + 1) + (64 * a + b) % 4 ^ j := by decide +kernel
theorem wN_2 : ∀ j, j < 6 → ∀ n, n < 4 → ∀ v, v < 4096 → (v &&& (4294967295 - 3 * 4 ^ j)) ||| (n * 4 ^ j) = v / 4 ^ (j + 1) * 4 ^ (j + 1) + n * 4 ^ j + v % 4 ^ j := fun j hj n hn v hv => by
  have e := wN_2a j hj (v / 64) (by omega) (v % 64) (Nat.mod_lt _ (by decide))
  rw [Nat.div_add_mod] at e
  have p : 0 < 4 ^ j := Nat.pow_pos (by decide)
  have lo : v % 4 ^ j < 4 ^ j := Nat.mod_lt _ p
  have e4 : ∀ i, 4 ^ i = 2 ^ (2 * i) := fun i => by rw [Nat.pow_mul]
  have m : n * 4 ^ j + v % 4 ^ j < 4 ^ (j + 1) := by
    have : n * 4 ^ j ≤ 3 * 4 ^ j := Nat.mul_le_mul_right _ (by omega)
    rw [Nat.pow_succ]
    omega
  have x1 := Nat.two_pow_add_eq_or_of_lt (i := 2 * (j + 1)) (b := v % 4 ^ j) (by rw [← e4, Nat.pow_succ]; omega) (v / 4 ^ (j + 1))
  have x2 := Nat.two_pow_add_eq_or_of_lt (i := 2 * (j + 1)) (b := n * 4 ^ j + v % 4 ^ j) (by rw [← e4]; exact m) (v / 4 ^ (j + 1))
  have x3 := Nat.two_pow_add_eq_or_of_lt (i := 2 * j) (b := v % 4 ^ j) (by rw [← e4]; exact lo) n
  rw [← e4] at x1 x2 x3
  rw [e, Nat.mul_comm (v / 4 ^ (j + 1)) (4 ^ (j + 1)), x1, Nat.or_assoc, Nat.or_comm (v % 4 ^ j), Nat.mul_comm n (4 ^ j), ← x3, Nat.mul_comm (4 ^ j) n, ← x2, Nat.add_assoc]
theorem wN {j n v : Nat} (hj : j < 6) (hn : n < 4) (hv : v < 4096) : (nI v &&& ((nI 3 <<< (nI (2 * j) &&& 31)) ^^^ (-1))) ||| (nI n <<< (nI (2 * j) &&& 31)) = nI (v / 4 ^ (j + 1) * 4 ^ (j + 1) + n * 4 ^ j + v % 4 ^ j) := by
  obtain ⟨e1, e2⟩ := wN_1 j hj n hn
  have l1 := Nat.div_mul_le_self v (4 ^ (j + 1))
  have l2 := Nat.mod_le v (4 ^ j)
  have l3 : 4 ^ j ≤ 4 ^ 5 := Nat.pow_le_pow_right (by decide) (by omega)
  have l4 : n * 4 ^ j ≤ 3 * 4 ^ 5 := Nat.mul_le_mul (by omega) l3
  refine Int32.toBitVec_inj.mp (BitVec.eq_of_toNat_eq ?_)
  have hm : (nI v).toBitVec.toNat = v := by rw [nI_bv, BitVec.toNat_ofNat]; exact Nat.mod_eq_of_lt (by omega)
  have hr : (nI (v / 4 ^ (j + 1) * 4 ^ (j + 1) + n * 4 ^ j + v % 4 ^ j)).toBitVec.toNat = v / 4 ^ (j + 1) * 4 ^ (j + 1) + n * 4 ^ j + v % 4 ^ j := by rw [nI_bv, BitVec.toNat_ofNat]; exact Nat.mod_eq_of_lt (by omega)
  rw [Int32.toBitVec_or, BitVec.toNat_or, Int32.toBitVec_and, BitVec.toNat_and, e1, e2, hm, hr]
  exact wN_2 j hj n hn v hv
theorem fo_add : ∀ (w : List Int32) (v : Nat), w.all isNt = true → w.foldl (fun v b => 4 * v + (b.toInt.toNat - 97)) v = v * 4 ^ w.length + w.foldl (fun v b => 4 * v + (b.toInt.toNat - 97)) 0
  | [], v, _ => by
    show v = v * 1 + 0
    omega
  | b :: w, v, h => by
    simp only [List.all_cons, Bool.and_eq_true] at h
    show w.foldl _ (4 * v + (b.toInt.toNat - 97)) = v * 4 ^ (w.length + 1) + w.foldl _ (4 * 0 + (b.toInt.toNat - 97))
    rw [fo_add w (4 * v + (b.toInt.toNat - 97)) h.2, fo_add w (4 * 0 + (b.toInt.toNat - 97)) h.2, Nat.pow_succ, Nat.add_mul, Nat.add_mul, Nat.mul_comm (4 ^ w.length) 4, ← Nat.mul_assoc v 4, Nat.mul_comm v 4]
    omega
theorem fo_set {c : Int32} (hc : isNt c = true) : ∀ (w : List Int32) (v k : Nat), w.all isNt = true → k < w.length → (w.set k c).foldl (fun v b => 4 * v + (b.toInt.toNat - 97)) v = w.foldl (fun v b => 4 * v + (b.toInt.toNat - 97)) v / 4 ^ (w.length - 1 - k + 1) * 4 ^ (w.length - 1 - k + 1) + (c.toInt.toNat - 97) * 4 ^ (w.length - 1 - k) + w.foldl (fun v b => 4 * v + (b.toInt.toNat - 97)) v % 4 ^ (w.length - 1 - k)
  | [], _, _, _, h => absurd h (Nat.not_lt_zero _)
  | b :: w, v, 0, h, _ => by
    simp only [List.all_cons, Bool.and_eq_true] at h
    have r := isNt_rg h.1
    have lt : w.foldl (fun v b => 4 * v + (b.toInt.toNat - 97)) 0 < 4 ^ (0 + w.length) := cnS_lt w 0 0 h.2 (by decide)
    rw [Nat.zero_add] at lt
    show w.foldl _ (4 * v + (c.toInt.toNat - 97)) = w.foldl _ (4 * v + (b.toInt.toNat - 97)) / 4 ^ (w.length + 1) * 4 ^ (w.length + 1) + (c.toInt.toNat - 97) * 4 ^ w.length + w.foldl _ (4 * v + (b.toInt.toNat - 97)) % 4 ^ w.length
    have e1 : w.foldl (fun v b => 4 * v + (b.toInt.toNat - 97)) (4 * v + (b.toInt.toNat - 97)) / 4 ^ (w.length + 1) = v := by
      rw [Nat.pow_succ, ← Nat.div_div_eq_div_mul, cnS_dv w _ h.2]
      omega
    have e2 : w.foldl (fun v b => 4 * v + (b.toInt.toNat - 97)) (4 * v + (b.toInt.toNat - 97)) % 4 ^ w.length = w.foldl (fun v b => 4 * v + (b.toInt.toNat - 97)) 0 := by
      rw [fo_add w _ h.2, Nat.mul_comm, Nat.mul_add_mod, Nat.mod_eq_of_lt lt]
    rw [e1, e2, fo_add w _ h.2, Nat.pow_succ, Nat.add_mul, Nat.mul_comm (4 ^ w.length) 4, ← Nat.mul_assoc v 4, Nat.mul_comm v 4]
  | b :: w, v, k + 1, h, hk => by
    simp only [List.all_cons, Bool.and_eq_true] at h
    have hk : k + 1 < w.length + 1 := hk
    have := fo_set hc w (4 * v + (b.toInt.toNat - 97)) k h.2 (by omega)
    show (w.set k c).foldl _ (4 * v + (b.toInt.toNat - 97)) = w.foldl _ (4 * v + (b.toInt.toNat - 97)) / 4 ^ (w.length + 1 - 1 - (k + 1) + 1) * 4 ^ (w.length + 1 - 1 - (k + 1) + 1) + (c.toInt.toNat - 97) * 4 ^ (w.length + 1 - 1 - (k + 1)) + w.foldl _ (4 * v + (b.toInt.toNat - 97)) % 4 ^ (w.length + 1 - 1 - (k + 1))
    rw [show w.length + 1 - 1 - (k + 1) = w.length - 1 - k by omega]
    exact this
def tnL (w : List Int32) (k n : Nat) : List Int32 := w.set k (nI (97 + n))
section TUN
variable {d N c k n nt : Nat} {h g : zH} {w : List Int32}
theorem tnL_ok (h4 : nt ≤ 4) (hn : n < nt) (hw : okN nt w) : okN nt (tnL w k n) := fun b hb => by
  rcases List.mem_or_eq_of_mem_set hb with z | z
  · exact hw b z
  · rw [z, nI_toInt (by omega)]
    omega
theorem tnL_len : (tnL w k n).length = w.length := List.length_set
theorem tnL_code (h4 : nt ≤ 4) (hn : n < nt) (hw : okN nt w) (hl : w.length ≤ 6) (hk : k < w.length) : (codeS w &&& ((nI 3 <<< (nI (2 * (w.length - 1 - k)) &&& 31)) ^^^ (-1))) ||| (nI n <<< (nI (2 * (w.length - 1 - k)) &&& 31)) = codeS (tnL w k n) := by
  have a1 := hw.nt h4
  have a2 := (tnL_ok (k := k) h4 hn hw).nt h4
  obtain ⟨c1, c2⟩ := cnS_b a1 hl
  obtain ⟨c3, -⟩ := cnS_b a2 (by rw [tnL_len]; exact hl)
  rw [c1, c3, wN (by omega) (by omega) c2]
  congr 1
  have hc : isNt (nI (97 + n)) = true := by
    unfold isNt
    simp only [Bool.and_eq_true, decide_eq_true_eq, Int32.le_iff_toInt_le, show (97 : Int32).toInt = 97 by decide, show (100 : Int32).toInt = 100 by decide, nI_toInt (show 97 + n < 2147483648 by omega)]
    omega
  have := fo_set hc w 0 k a1 hk
  rw [nI_toInt (by omega)] at this
  have e : ((97 + n : Nat) : Int).toNat - 97 = n := by omega
  rw [e] at this
  exact this.symm
/-- the code stays the same where the note was that -/
theorem tnL_eq (h4 : nt ≤ 4) (hn : n < nt) (hw : okN nt w) (hl : w.length ≤ 6) (hk : k < w.length) : codeS (tnL w k n) = codeS w ↔ dg (w.getD k 0) = n := by
  have a1 := hw.nt h4
  have w2 := tnL_ok (k := k) h4 hn hw
  have a2 := w2.nt h4
  obtain ⟨c1, c2⟩ := cnS_b a1 hl
  obtain ⟨c3, c4⟩ := cnS_b a2 (by rw [tnL_len]; exact hl)
  have gd : (tnL w k n).getD k 0 = nI (97 + n) := by
    unfold tnL
    rw [List.getD_eq_getElem?_getD, List.getElem?_set_self hk]
    rfl
  have dn : dg (nI (97 + n)) = n := by
    unfold dg
    rw [nI_toInt (by omega)]
    omega
  constructor
  · intro e
    rw [c1, c3] at e
    have e : cnS (tnL w k n) = cnS w := (nI_eq (by omega) (by omega)).mp e
    have r1 := cnS_at w 0 k a1 hk
    have r2 := cnS_at (tnL w k n) 0 k a2 (by rw [tnL_len]; exact hk)
    rw [tnL_len, gd, dn] at r2
    have e : (tnL w k n).foldl (fun v b => 4 * v + (b.toInt.toNat - 97)) 0 = w.foldl (fun v b => 4 * v + (b.toInt.toNat - 97)) 0 := e
    rw [e, r1] at r2
    exact r2
  · intro e
    have : tnL w k n = w := by
      unfold tnL
      have hb := hw _ (show w.getD k 0 ∈ w by rw [List.getD_eq_getElem?_getD, List.getElem?_eq_getElem hk]; exact List.getElem_mem hk)
      have eb : nI (97 + n) = w.getD k 0 := by
        refine Int32.toInt_inj.mp ?_
        rw [nI_toInt (by omega), ← e]
        unfold dg
        omega
      rw [eb, List.getD_eq_getElem?_getD, List.getElem?_eq_getElem hk]
      exact List.set_getElem_self hk
    rw [this]
theorem N_withNote (h4 : nt ≤ 4) (hn : n < nt) (hw : okN nt w) (hl : w.length ≤ 6) (hk : k < w.length) : zPa d mX11_withNote [.inl (codeS w), .inl (nI w.length), .inl (nI k), .inl (nI n)] h (fun v g => v = some (.inl (codeS (tnL w k n))) ∧ g = h) := by
  intro N
  have key := tnL_code (k := k) h4 hn hw hl hk
  show zPn N none d mX11_withNote (0, [(0, .inl (codeS w)), (1, .inl (nI w.length)), (2, .inl (nI k)), (3, .inl (nI n))], [], h) _
  refine pa_iconst (v := nI 2) (pc' := 1) dX11_withNote_0 (by decide) rfl ?_
  refine pa_iload_n (pc' := 2) dX11_withNote_1 rfl rfl ?_
  refine pa_iconst (v := nI 1) (pc' := 3) dX11_withNote_2 (by decide) rfl ?_
  refine pa_isub (pc' := 4) (v := nI (w.length - 1)) dX11_withNote_3 (nI_sub (by omega)) rfl ?_
  refine pa_iload_n (pc' := 5) dX11_withNote_4 rfl rfl ?_
  refine pa_isub (pc' := 6) (v := nI ((w.length - 1) - k)) dX11_withNote_5 (nI_sub (by omega)) rfl ?_
  refine pa_imul (pc' := 7) (v := nI (2 * ((w.length - 1) - k))) dX11_withNote_6 (nI_mul _ _) rfl ?_
  refine pa_istore (pc' := 9) dX11_withNote_7 (by decide) rfl rfl ?_
  refine pa_iload_n (pc' := 10) dX11_withNote_9 rfl rfl ?_
  refine pa_iconst (v := nI 3) (pc' := 11) dX11_withNote_10 (by decide) rfl ?_
  refine pa_iload (pc' := 13) dX11_withNote_11 rfl rfl ?_
  refine pa_ishl (pc' := 14) dX11_withNote_13 rfl rfl ?_
  refine pa_iconst (v := (-1)) (pc' := 15) dX11_withNote_14 (by decide) rfl ?_
  refine pa_ixor (pc' := 16) dX11_withNote_15 rfl rfl ?_
  refine pa_iand (pc' := 17) dX11_withNote_16 rfl rfl ?_
  refine pa_iload_n (pc' := 18) dX11_withNote_17 rfl rfl ?_
  refine pa_iload (pc' := 20) dX11_withNote_18 rfl rfl ?_
  refine pa_ishl (pc' := 21) dX11_withNote_20 rfl rfl ?_
  refine pa_ior (pc' := 22) dX11_withNote_21 rfl rfl ?_
  refine pa_iret dX11_withNote_22 rfl rfl ?_
  rw [key]
  exact ⟨rfl, rfl⟩
end TUN
/-! tune: class and reference -/
def tunS (s : nS) (b k n : Nat) : nS := (s.1, s.2.1, s.2.2.1, s.2.2.2.1, s.2.2.2.2.1, fun j => if j = b then tnL (s.2.2.2.2.2 b) k n else s.2.2.2.2.2 j)
def tunO (A : pA) (s : nS) (H J : List nS) (x y z : Int32) (v : Option zV) (t : Int32) (L : nS → List nS → List nS → Prop) : Prop := ((∀ b k : Nat, x = nI b → y = nI k → b < cB A → k < lB A b → False) ∧ v = some (.inl 0) ∧ t = 1 ∧ L s H J) ∨ ∃ b k : Nat, x = nI b ∧ y = nI k ∧ b < cB A ∧ k < lB A b ∧ ((¬ (0 ≤ z.toInt ∧ z.toInt < (ntA A : Int)) ∧ v = some (.inl 0) ∧ t = 2 ∧ L s H J) ∨ ∃ n : Nat, z = nI n ∧ n < ntA A ∧ (((s.2.2.2.2.1 b ≠ none ∨ dg ((s.2.2.2.2.2 b).getD k 0) = n) ∧ v = some (.inl 0) ∧ t = 5 ∧ L s H J) ∨ (s.2.2.2.2.1 b = none ∧ dg ((s.2.2.2.2.2 b).getD k 0) ≠ n ∧ v = some (.inl 1) ∧ t = 0 ∧ L (tunS s b k n) ((s :: H).take 12) J)))
section TUC
variable {d N c w b : Nat} {h g : zH} {A : pA} {s : nS} {H J : List nS} {x y z : Int32}
theorem N_isWithin {k : Nat} (hk : 1 ≤ k) (h9 : k ≤ 1000) : zPa d mX11_isWithin [.inl z, .inl (nI (k - 1))] h (fun v g => v = some (.inl (if 0 ≤ z.toInt ∧ z.toInt < (k : Int) then 1 else 0)) ∧ g = h) := by
  intro N
  have k0 : (0 : Int32).toInt = 0 := by decide
  have e13 : ¬ (0 ≤ z.toInt ∧ z.toInt < (k : Int)) → ∀ N, zPn N none d mX11_isWithin (13, [(0, .inl z), (1, .inl (nI (k - 1)))], [], h) (fun v g => v = some (.inl (if 0 ≤ z.toInt ∧ z.toInt < (k : Int) then 1 else 0)) ∧ g = h) := fun q N => by
    refine pa_iconst (v := 0) (pc' := 14) dX11_isWithin_13 (by decide) rfl ?_
    refine pa_iret dX11_isWithin_14 rfl rfl ?_
    exact ⟨by rw [if_neg q], rfl⟩
  show zPn N none d mX11_isWithin (0, [(0, .inl z), (1, .inl (nI (k - 1)))], [], h) _
  refine pa_iload_n (pc' := 1) dX11_isWithin_0 rfl rfl ?_
  refine pa_if (pc' := 13) (pc2 := 4) dX11_isWithin_1 (by decide) rfl (fun q => ?_) (fun q => ?_)
  · have q := zi_lt q
    rw [k0] at q
    exact e13 (by omega) _
  · have q := zi_nlt q
    rw [k0] at q
    refine pa_iload_n (pc' := 5) dX11_isWithin_4 rfl rfl ?_
    refine pa_iload_n (pc' := 6) dX11_isWithin_5 rfl rfl ?_
    refine pa_icmp (pc' := 13) (pc2 := 9) dX11_isWithin_6 (by decide) rfl (fun u => ?_) (fun u => ?_)
    · have u := lt_i.mp (of_decide_eq_true u)
      rw [nI_toInt (by omega)] at u
      exact e13 (by omega) _
    · have u := of_decide_eq_false u
      rw [lt_i, nI_toInt (by omega)] at u
      refine pa_iconst (v := 1) (pc' := 10) dX11_isWithin_9 (by decide) rfl ?_
      refine pa_goto (pc' := 14) dX11_isWithin_10 (by decide) ?_
      refine pa_iret dX11_isWithin_14 rfl rfl ?_
      exact ⟨by rw [if_pos (by omega)], rfl⟩
theorem lB_6 (B : bgC A c s h) (hb : b < cB A) : lB A b ≤ 6 := by
  obtain ⟨-, q2, -⟩ := num_box B.1.1 B.1.2.2.1 B.1.2.1 hb
  exact (B.2.2.1.2.2.2.2.2 _ q2).2.2.2
theorem C_tune (S : nwS h) (hA : lPA A c h) (B : cI A ≠ 0 → bgC A c s h) (L : lNC A s H J h) : zPa d mX11_tune [.inr (.inr (some 0)), .inl x, .inl y, .inl z] h (fun v g => nwF h g ∧ tunO A s H J x y z v (g.2.1 0 2) (fun s H J => lNC A s H J g)) := by
  intro N
  have hI := hA.1
  obtain ⟨b1, b2, b3, b4, b5⟩ := hI.2.2.1
  have s0 : zsh h 0 = some (11, 16) := zsh_by S.1 (by decide +kernel)
  have s86 : zsh h 86 = some (2, 7) := zsh_by S.1 (by decide +kernel)
  have s91 : zsh h 91 = some (14, 8) := zsh_by S.1 (by decide +kernel)
  have r6 := S.2.1
  have r3 := hA.2.2.1
  have sc := hA.sc S.1
  obtain ⟨-, -, -, -, r91⟩ := S.o86.2
  have k0 : (0 : Int32).toInt = 0 := by decide
  have nob : (∀ b k : Nat, x = nI b → y = nI k → b < cB A → k < lB A b → False) → ∀ d N, zPn N none d mX11_isNoteOfBox (28, [(0, .inr (.inr (some 0))), (1, .inl x), (2, .inl y)], [], h) (fun v g => (((∀ b k : Nat, x = nI b → y = nI k → b < cB A → k < lB A b → False) ∧ v = some (.inl 0)) ∨ ((∃ b k : Nat, x = nI b ∧ y = nI k ∧ b < cB A ∧ k < lB A b) ∧ v = some (.inl 1))) ∧ g = h) := fun q d N => by
    refine pa_iconst (v := 0) (pc' := 29) dX11_isNoteOfBox_28 (by decide) rfl ?_
    refine pa_iret dX11_isNoteOfBox_29 rfl rfl ?_
    exact ⟨.inl ⟨q, rfl⟩, rfl⟩
  have isn : ∀ d, zPa d mX11_isNoteOfBox [.inr (.inr (some 0)), .inl x, .inl y] h (fun v g => (((∀ b k : Nat, x = nI b → y = nI k → b < cB A → k < lB A b → False) ∧ v = some (.inl 0)) ∨ ((∃ b k : Nat, x = nI b ∧ y = nI k ∧ b < cB A ∧ k < lB A b) ∧ v = some (.inl 1))) ∧ g = h) := fun d N => by
    show zPn N none d mX11_isNoteOfBox (0, [(0, .inr (.inr (some 0))), (1, .inl x), (2, .inl y)], [], h) _
    refine pa_aload_n (pc' := 1) dX11_isNoteOfBox_0 rfl rfl ?_
    refine pa_iload_n (pc' := 2) dX11_isNoteOfBox_1 rfl rfl ?_
    refine pa_callv (pc' := 5) (vs := [.inl x]) (rest := []) dX11_isNoteOfBox_2 ml_11_147 (by decide) rfl rfl rfl (fun d' _ => (N_isBox hA S.1)) (fun v g9 hq => ?_)
    obtain ⟨ev, eh⟩ := hq
    subst ev
    rw [eh]
    show zPn N none d mX11_isNoteOfBox (5, _, [.inl (if 0 ≤ x.toInt ∧ x.toInt < (cB A:Int) then 1 else 0)], h) _
    by_cases hx : 0 ≤ x.toInt ∧ x.toInt < (cB A : Int)
    case neg =>
      rw [if_neg hx]
      refine pa_if_t (pc' := 28) dX11_isNoteOfBox_5 (by decide) (by decide) ?_
      exact nob (fun b k e1 e2 e3 e4 => hx (by rw [e1, nI_toInt (by omega)]; omega)) _ _
    rw [if_pos hx]
    refine pa_if_f (pc' := 8) dX11_isNoteOfBox_5 (by decide) (by decide) rfl ?_
    refine pa_iload_n (pc' := 9) dX11_isNoteOfBox_8 rfl rfl ?_
    refine pa_if (pc' := 28) (pc2 := 12) dX11_isNoteOfBox_9 (by decide) rfl (fun q => ?_) (fun q => ?_)
    · have q := zi_lt q
      rw [k0] at q
      refine nob (fun b k e1 e2 e3 e4 => ?_) _ _
      have l6 := lB_6 (B (hA.has e3)) e3
      rw [e2, nI_toInt (by omega)] at q
      omega
    have q := zi_nlt q
    rw [k0] at q
    obtain ⟨b, eb, hb⟩ : ∃ b : Nat, x = nI b ∧ b < cB A := ⟨x.toInt.toNat, Int32.toInt_inj.mp (by rw [nI_toInt (by omega)]; omega), by omega⟩
    have B := B (hA.has hb)
    have l6 := lB_6 B hb
    rw [eb]
    refine pa_iload_n (pc' := 13) dX11_isNoteOfBox_12 rfl rfl ?_
    refine pa_aload_n (pc' := 14) dX11_isNoteOfBox_13 rfl rfl ?_
    refine pa_getR (pc' := 17) (n := 16) (r := c) dX11_isNoteOfBox_14 fl_11_23 s0 (by decide) r3 rfl ?_
    refine pa_iload_n (pc' := 18) dX11_isNoteOfBox_17 rfl rfl ?_
    refine pa_callv (pc' := 21) (vs := [.inl (nI b)]) (rest := [.inl y]) dX11_isNoteOfBox_18 ml_11_198 (by decide) rfl rfl rfl (fun d' _ => (N_boxLength B hb)) (fun v g9 hq => ?_)
    obtain ⟨ev, eh⟩ := hq
    subst ev
    rw [eh]
    show zPn N none d mX11_isNoteOfBox (21, _, [.inl (nI (lB A b)), .inl y], h) _
    refine pa_icmp (pc' := 28) (pc2 := 24) dX11_isNoteOfBox_21 (by decide) rfl (fun u => ?_) (fun u => ?_)
    · have u := zi_nlt (zk_ge_lt u)
      rw [nI_toInt (by omega)] at u
      have := nob (fun b' k e1 e2 e3 e4 => by
        have : b' = b := (nI_eq (by omega) (by omega)).mp (e1.symm.trans eb)
        rw [this] at e4
        rw [e2, nI_toInt (by omega)] at u
        omega)
      rw [eb] at this
      exact this _ _
    · have u := zi_lt (zk_ge_lt u)
      rw [nI_toInt (by omega)] at u
      refine pa_iconst (v := 1) (pc' := 25) dX11_isNoteOfBox_24 (by decide) rfl ?_
      refine pa_goto (pc' := 29) dX11_isNoteOfBox_25 (by decide) ?_
      refine pa_iret dX11_isNoteOfBox_29 rfl rfl ?_
      exact ⟨.inr ⟨⟨b, y.toInt.toNat, rfl, Int32.toInt_inj.mp (by rw [nI_toInt (by omega)]; omega), hb, by omega⟩, rfl⟩, rfl⟩
  show zPn N none d mX11_tune (0, [(0, .inr (.inr (some 0))), (1, .inl x), (2, .inl y), (3, .inl z)], [], h) _
  refine pa_aload_n (pc' := 1) dX11_tune_0 rfl rfl ?_
  refine pa_iload_n (pc' := 2) dX11_tune_1 rfl rfl ?_
  refine pa_iload_n (pc' := 3) dX11_tune_2 rfl rfl ?_
  refine pa_callv (pc' := 6) (vs := [.inl x, .inl y]) (rest := []) dX11_tune_3 ml_11_191 (by decide) rfl rfl rfl (fun d' _ => isn d') (fun v g9 hq => ?_)
  obtain ⟨hq, eh⟩ := hq
  rw [eh]
  rcases hq with ⟨q, ev⟩ | ⟨⟨b, k, eb, ek, hb, hk⟩, ev⟩
  case inl =>
    subst ev
    show zPn N none d mX11_tune (6, [(0, .inr (.inr (some 0))), (1, .inl x), (2, .inl y), (3, .inl z)], [.inl 0], h) _
    refine pa_if_f (pc' := 9) dX11_tune_6 (by decide) (by decide) rfl ?_
    refine pa_aload_n (pc' := 10) dX11_tune_9 rfl rfl ?_
    refine pa_iconst (v := nI 1) (pc' := 11) dX11_tune_10 (by decide) rfl ?_
    refine pa_callv (pc' := 14) (vs := [.inl (nI 1)]) (rest := []) dX11_tune_11 ml_11_347 (by decide) rfl rfl rfl (fun d' _ => (c_hRe s0)) (fun v g hq => ?_)
    obtain ⟨ev, eh⟩ := hq
    subst ev
    show zPn N none d mX11_tune (14, _, [.inl 0], g) _
    subst eh
    refine pa_iret dX11_tune_14 rfl rfl ?_
    exact ⟨nwF.t2, .inl ⟨q, rfl, by rw [zsI_at, if_pos ⟨rfl, rfl⟩]; rfl, L.t2⟩⟩
  subst ev
  have B := B (hA.has hb)
  obtain ⟨-, hT, hB, hO⟩ := B.1
  have l6 := lB_6 B hb
  obtain ⟨ok, ol, oc⟩ := hO.2.2 b hb
  obtain ⟨n2, n4, -⟩ := B.2.2.1.2.2.2.2.1
  have e0 : h.2.1 c 0 = nI (ntA A) := B.2.2.1.2.2.2.1.1
  have e5 : h.2.1 91 b = codeS (s.2.2.2.2.2 b) := (L.1.2.2.2 b hb).2.2
  subst eb
  subst ek
  show zPn N none d mX11_tune (6, [(0, .inr (.inr (some 0))), (1, .inl (nI b)), (2, .inl (nI k)), (3, .inl z)], [.inl 1], h) _
  refine pa_if_t (pc' := 15) dX11_tune_6 (by decide) (by decide) ?_
  refine pa_iload_n (pc' := 16) dX11_tune_15 rfl rfl ?_
  refine pa_aload_n (pc' := 17) dX11_tune_16 rfl rfl ?_
  refine pa_getR (pc' := 20) (n := 16) (r := c) dX11_tune_17 fl_11_23 s0 (by decide) r3 rfl ?_
  refine pa_getI (pc' := 23) (n := 15) (v := nI (ntA A)) dX11_tune_20 fl_11_350 sc (by decide) e0 rfl ?_
  refine pa_iconst (v := nI 1) (pc' := 24) dX11_tune_23 (by decide) rfl ?_
  refine pa_isub (pc' := 25) (v := nI ((ntA A) - 1)) dX11_tune_24 (nI_sub (by omega)) rfl ?_
  refine pa_calls (pc' := 28) (kd := 1) (vs := [.inl z, .inl (nI ((ntA A) - 1))]) (rest := []) dX11_tune_25 ml_11_227 (.inl rfl) rfl rfl rfl (fun d' _ => (N_isWithin (k := ntA A) (by omega) (by omega))) (fun v g9 hq => ?_)
  obtain ⟨ev, eh⟩ := hq
  subst ev
  rw [eh]
  show zPn N none d mX11_tune (28, _, [.inl (if 0 ≤ z.toInt ∧ z.toInt < (ntA A:Int) then 1 else 0)], h) _
  by_cases hz : 0 ≤ z.toInt ∧ z.toInt < (ntA A : Int)
  case neg =>
    rw [if_neg hz]
    refine pa_if_f (pc' := 31) dX11_tune_28 (by decide) (by decide) rfl ?_
    refine pa_aload_n (pc' := 32) dX11_tune_31 rfl rfl ?_
    refine pa_iconst (v := nI 2) (pc' := 33) dX11_tune_32 (by decide) rfl ?_
    refine pa_callv (pc' := 36) (vs := [.inl (nI 2)]) (rest := []) dX11_tune_33 ml_11_347 (by decide) rfl rfl rfl (fun d' _ => (c_hRe s0)) (fun v g hq => ?_)
    obtain ⟨ev, eh⟩ := hq
    subst ev
    show zPn N none d mX11_tune (36, _, [.inl 0], g) _
    subst eh
    refine pa_iret dX11_tune_36 rfl rfl ?_
    exact ⟨nwF.t2, .inr ⟨b, k, rfl, rfl, hb, hk, .inl ⟨hz, rfl, by rw [zsI_at, if_pos ⟨rfl, rfl⟩]; rfl, L.t2⟩⟩⟩
  rw [if_pos hz]
  obtain ⟨n, en, hn⟩ : ∃ n : Nat, z = nI n ∧ n < ntA A := ⟨z.toInt.toNat, Int32.toInt_inj.mp (by rw [nI_toInt (by omega)]; omega), by omega⟩
  subst en
  refine pa_if_t (pc' := 37) dX11_tune_28 (by decide) (by decide) ?_
  refine pa_aload_n (pc' := 38) dX11_tune_37 rfl rfl ?_
  refine pa_getR (pc' := 41) (n := 16) (r := 86) dX11_tune_38 fl_11_42 s0 (by decide) r6 rfl ?_
  refine pa_getR (pc' := 44) (n := 7) (r := 91) dX11_tune_41 fl_11_195 s86 (by decide) r91 rfl ?_
  refine pa_iload_n (pc' := 45) dX11_tune_44 rfl rfl ?_
  refine pa_iald (pc' := 46) dX11_tune_45 s91 rfl (fun _ => ?_)
  rw [nI_clamp (by omega), e5]
  refine pa_aload_n (pc' := 47) dX11_tune_46 rfl rfl ?_
  refine pa_getR (pc' := 50) (n := 16) (r := c) dX11_tune_47 fl_11_23 s0 (by decide) r3 rfl ?_
  refine pa_iload_n (pc' := 51) dX11_tune_50 rfl rfl ?_
  refine pa_callv (pc' := 54) (vs := [.inl (nI b)]) (rest := [.inl (codeS (s.2.2.2.2.2 b))]) dX11_tune_51 ml_11_198 (by decide) rfl rfl rfl (fun d' _ => (N_boxLength B hb)) (fun v g9 hq => ?_)
  obtain ⟨ev, eh⟩ := hq
  subst ev
  rw [eh]
  show zPn N none d mX11_tune (54, _, [.inl (nI (lB A b)), .inl (codeS (s.2.2.2.2.2 b))], h) _
  rw [← ol]
  refine pa_iload_n (pc' := 55) dX11_tune_54 rfl rfl ?_
  refine pa_iload_n (pc' := 56) dX11_tune_55 rfl rfl ?_
  refine pa_calls (pc' := 59) (kd := 1) (vs := [.inl (codeS (s.2.2.2.2.2 b)), .inl (nI ((s.2.2.2.2.2 b).length)), .inl (nI k), .inl (nI n)]) (rest := []) dX11_tune_56 ml_11_353 (.inl rfl) rfl rfl rfl (fun d' _ => (N_withNote n4 hn ok (by omega) (by omega))) (fun v g9 hq => ?_)
  obtain ⟨ev, eh⟩ := hq
  subst ev
  rw [eh]
  show zPn N none d mX11_tune (59, _, [.inl (codeS (tnL (s.2.2.2.2.2 b) k n))], h) _
  refine pa_istore (pc' := 61) dX11_tune_59 (by decide) rfl rfl ?_
  refine pa_aload_n (pc' := 62) dX11_tune_61 rfl rfl ?_
  refine pa_getR (pc' := 65) (n := 16) (r := 86) dX11_tune_62 fl_11_42 s0 (by decide) r6 rfl ?_
  refine pa_iload_n (pc' := 66) dX11_tune_65 rfl rfl ?_
  refine pa_callv (pc' := 69) (vs := [.inl (nI b)]) (rest := []) dX11_tune_66 ml_11_242 (by decide) rfl rfl rfl (fun d' _ => (N_isSent B hb)) (fun v g9 hq => ?_)
  obtain ⟨ev, eh⟩ := hq
  subst ev
  rw [eh]
  show zPn N none d mX11_tune (69, _, [.inl (match s.2.2.2.2.1 b with | some _ => 1 | none => 0)], h) _
  have fin : (s.2.2.2.2.1 b ≠ none ∨ dg ((s.2.2.2.2.2 b).getD k 0) = n) → ∀ N, zPn N none d mX11_tune (86, [(4, .inl (codeS (tnL (s.2.2.2.2.2 b) k n))), (0, .inr (.inr (some 0))), (1, .inl (nI b)), (2, .inl (nI k)), (3, .inl (nI n))], [], h) (fun v g => nwF h g ∧ tunO A s H J (nI b) (nI k) (nI n) v (g.2.1 0 2) (fun s H J => lNC A s H J g)) := fun q N => by
    refine pa_aload_n (pc' := 87) dX11_tune_86 rfl rfl ?_
    refine pa_iconst (v := nI 5) (pc' := 88) dX11_tune_87 (by decide) rfl ?_
    refine pa_callv (pc' := 91) (vs := [.inl (nI 5)]) (rest := []) dX11_tune_88 ml_11_347 (by decide) rfl rfl rfl (fun d' _ => (c_hRe s0)) (fun v g hq => ?_)
    obtain ⟨ev, eh⟩ := hq
    subst ev
    show zPn N none d mX11_tune (91, _, [.inl 0], g) _
    subst eh
    refine pa_iret dX11_tune_91 rfl rfl ?_
    exact ⟨nwF.t2, .inr ⟨b, k, rfl, rfl, hb, hk, .inr ⟨n, rfl, hn, .inl ⟨q, rfl, by rw [zsI_at, if_pos ⟨rfl, rfl⟩]; rfl, L.t2⟩⟩⟩⟩
  cases o : s.2.2.2.2.1 b with
  | some p =>
    refine pa_if_t (pc' := 86) dX11_tune_69 (show zcond .ne (1 : Int32) 0 = true by decide) (by decide) ?_
    exact fin (.inl (by rw [o]; exact fun q => nomatch q)) _
  | none =>
    refine pa_if_f (pc' := 72) dX11_tune_69 (by decide) (by decide) rfl ?_
    refine pa_iload (pc' := 74) dX11_tune_72 rfl rfl ?_
    refine pa_aload_n (pc' := 75) dX11_tune_74 rfl rfl ?_
    refine pa_getR (pc' := 78) (n := 16) (r := 86) dX11_tune_75 fl_11_42 s0 (by decide) r6 rfl ?_
    refine pa_getR (pc' := 81) (n := 7) (r := 91) dX11_tune_78 fl_11_195 s86 (by decide) r91 rfl ?_
    refine pa_iload_n (pc' := 82) dX11_tune_81 rfl rfl ?_
    refine pa_iald (pc' := 83) dX11_tune_82 s91 rfl (fun _ => ?_)
    rw [nI_clamp (by omega), e5]
    by_cases hd : dg ((s.2.2.2.2.2 b).getD k 0) = n
    case pos =>
      refine pa_icmp_f (pc' := 86) dX11_tune_83 (decide_eq_false (not_not_intro ((tnL_eq n4 hn ok (by omega) (by omega)).mpr hd))) (by decide) rfl ?_
      exact fin (.inr hd) _
    clear fin
    refine pa_icmp_t (pc' := 92) dX11_tune_83 (decide_eq_true (fun q => hd ((tnL_eq n4 hn ok (by omega) (by omega)).mp q))) (by decide) ?_
    refine pa_aload_n (pc' := 93) dX11_tune_92 rfl rfl ?_
    refine pa_callv (pc' := 96) (vs := []) (rest := []) dX11_tune_93 ml_11_341 (by decide) rfl rfl rfl (fun d' _ => (N_keep S b3 b4 L)) (fun v g5 hq => ?_)
    obtain ⟨ev, eh⟩ := hq
    subst ev
    show zPn N none d mX11_tune (96, _, [], g5) _
    obtain ⟨L5, F5⟩ := eh
    have S5 := S.fr F5.1 F5.2.1
    have q0 : zsh g5 0 = some (11, 16) := zsh_by S5.1 (by decide +kernel)
    have q86 : zsh g5 86 = some (2, 7) := zsh_by S5.1 (by decide +kernel)
    have q91 : zsh g5 91 = some (14, 8) := zsh_by S5.1 (by decide +kernel)
    have x6 := S5.2.1
    obtain ⟨-, -, -, -, x91⟩ := S5.o86.2
    refine pa_aload_n (pc' := 97) dX11_tune_96 rfl rfl ?_
    refine pa_getR (pc' := 100) (n := 16) (r := 86) dX11_tune_97 fl_11_42 q0 (by decide) x6 rfl ?_
    refine pa_getR (pc' := 103) (n := 7) (r := 91) dX11_tune_100 fl_11_195 q86 (by decide) x91 rfl ?_
    refine pa_iload_n (pc' := 104) dX11_tune_103 rfl rfl ?_
    refine pa_iload (pc' := 106) dX11_tune_104 rfl rfl ?_
    refine pa_iast (pc' := 107) dX11_tune_106 q91 rfl (fun _ => ?_)
    rw [nI_clamp (by omega)]
    refine pa_aload_n (pc' := 108) dX11_tune_107 rfl rfl ?_
    refine pa_callv (pc' := 111) (vs := []) (rest := []) dX11_tune_108 ml_11_356 (by decide) rfl rfl rfl (fun d' _ => (c_hGr q0)) (fun v g6 hq => ?_)
    obtain ⟨ev, eh⟩ := hq
    subst ev
    show zPn N none d mX11_tune (111, _, [.inl 1], g6) _
    subst eh
    refine pa_iret dX11_tune_111 rfl rfl ?_
    have at' : ∀ a j, (zsI (zsI g5 91 b (codeS (tnL (s.2.2.2.2.2 b) k n))) 0 2 0).2.1 a j = if a = 0 ∧ j = 2 then 0 else if a = 91 ∧ j = b then codeS (tnL (s.2.2.2.2.2 b) k n) else g5.2.1 a j := fun a j => by
      rw [zsI_at, zsI_at]
    have out : ∀ a j, (a = 0 → j ≠ 2) → a ≠ 91 → (zsI (zsI g5 91 b (codeS (tnL (s.2.2.2.2.2 b) k n))) 0 2 0).2.1 a j = g5.2.1 a j := fun a j w1 w2 => by rw [at', if_neg (by omega), if_neg (by omega)]
    obtain ⟨⟨m1, m2, m3, m4⟩, ⟨nw, hn2, e12, e13, hl, hh⟩, j1, j2, j3⟩ := L5
    refine ⟨F5.tr ⟨rfl, rfl, fun k w0 w1 w2 w3 => out _ _ (by omega) (by omega), fun a k w1 w2 w3 => out _ _ (by omega) (by omega)⟩, .inr ⟨b, k, rfl, rfl, hb, hk, .inr ⟨n, rfl, hn, .inr ⟨o, hd, rfl, by rw [at', if_pos ⟨rfl, rfl⟩], ⟨(out _ _ (by omega) (by omega)).trans m1, (out _ _ (by omega) (by omega)).trans m2, fun j hj => ⟨(out _ _ (by omega) (by omega)).trans (m3 j hj).1, (out _ _ (by omega) (by omega)).trans (m3 j hj).2⟩, fun j hj => ⟨(out _ _ (by omega) (by omega)).trans (m4 j hj).1, (out _ _ (by omega) (by omega)).trans (m4 j hj).2.1, ?_⟩⟩, ⟨nw, hn2, (out _ _ (by omega) (by omega)).trans e12, (out _ _ (by omega) (by omega)).trans e13, hl, fun k t hk => (hh k t hk).fr (fun a j w1 w2 => out _ _ (by omega) (by omega))⟩, (out _ _ (by omega) (by omega)).trans j1, j2, fun k t hk => (j3 k t hk).fr (fun a j w1 w2 => out _ _ (by omega) (by omega))⟩⟩⟩⟩
    show (zsI (zsI g5 91 b (codeS (tnL (s.2.2.2.2.2 b) k n))) 0 2 0).2.1 91 j = codeS (if j = b then tnL (s.2.2.2.2.2 b) k n else s.2.2.2.2.2 j)
    rw [at', if_neg (by omega)]
    by_cases z : j = b
    · rw [if_pos ⟨rfl, z⟩, if_pos z]
    · rw [if_neg (fun q => z q.2), if_neg z]
      exact (m4 j hj).2.2
end TUC
/-! tune: the reference -/
section TUM
variable {d N c w b : Nat} {h g : zH} {A : pA} {s : nS} {H J : List nS} {x y z : Int32}
theorem nI_prd : ∀ x : Nat, x < 32 → (nI x - 1).toInt = (x : Int) - 1 := by decide
theorem bgM.gd (B : bgM A s h) : bgM A s (zsI (zsI h 196 0 0) 196 11 0) := by
  obtain ⟨B1, B2, B3, ⟨n1, n2, n3, n4⟩, B5, B6⟩ := B
  have e : ∀ a k, a ≠ 196 → (zsI (zsI h 196 0 0) 196 11 0).2.1 a k = h.2.1 a k := fun a k ha => by rw [zsI_at, zsI_at, if_neg (fun q => ha q.1), if_neg (fun q => ha q.1)]
  refine ⟨B1, ?_, ?_, ⟨(e _ _ (by decide)).trans n1, (e _ _ (by decide)).trans n2, fun w hw => ⟨(e _ _ (by decide)).trans (n3 w hw).1, (e _ _ (by decide)).trans (n3 w hw).2⟩, fun b hb => ⟨(e _ _ (by decide)).trans (n4 b hb).1, (e _ _ (by decide)).trans (n4 b hb).2.1, fun k hk => (e _ _ (by decide)).trans ((n4 b hb).2.2 k hk)⟩⟩, fun w hw j hj => (e _ _ (by decide)).trans (B5 w hw j hj), fun b hb j hj => (e _ _ (by decide)).trans (B6 b hb j hj)⟩
  · obtain ⟨k1, k2, k3, k4, ⟨k5, k6, k7⟩, k8⟩ := B2
    refine ⟨k1, k2, k3, k4, ⟨(e _ _ (by decide)).trans k5, (e _ _ (by decide)).trans k6, (e _ _ (by decide)).trans k7⟩, fun k hk => ?_⟩
    rw [e _ _ (by decide), e _ _ (by decide), e _ _ (by decide), e _ _ (by decide)]
    exact k8 k hk
  · obtain ⟨k1, k2, ⟨k3, k4, k5, k6⟩, k7, k8⟩ := B3
    refine ⟨k1, k2, ⟨(e _ _ (by decide)).trans k3, (e _ _ (by decide)).trans k4, (e _ _ (by decide)).trans k5, (e _ _ (by decide)).trans k6⟩, k7, fun i hi => ?_⟩
    obtain ⟨a1, a2, a3⟩ := k8 i hi
    exact ⟨(e _ _ (by decide)).trans a1, fun k hk => (e _ _ (by decide)).trans (a2 k hk), a3⟩
theorem M_tune (S : mwS h) (hA : lPA A c h) (r15 : h.2.2.2.1 196 15 = some 199) (B : cI A ≠ 0 → bgM A s h) (L : lNM A s H J h) : zPa d mX12_tune [.inr (.inr (some 196)), .inl x, .inl y, .inl z] h (fun v g => mwF h g ∧ tunO A s H J x y z v (g.2.1 196 11) (fun s H J => lNM A s H J g)) := by
  intro N
  have hI := hA.1
  obtain ⟨b1, b2, b3, b4, b5⟩ := hI.2.2.1
  have s196 : zsh h 196 = some (12, 39) := zsh_by S.1 (by decide +kernel)
  have k0 : (0 : Int32).toInt = 0 := by decide
  generalize eh1 : zsI (zsI h 196 0 0) 196 11 0 = h1
  have F1 : mwF h h1 := by rw [← eh1]; exact mwF.gd
  have t11 : h1.2.1 196 11 = 0 := by rw [← eh1, zsI_at, if_pos ⟨rfl, rfl⟩]
  have L1 : lNM A s H J h1 := L.ch b3 b4 (fun b k w1 w2 w3 => by rw [← eh1, zsI_at, zsI_at, if_neg (by omega), if_neg (by omega)])
  have S1 : mwS h1 := S.fr F1.1 F1.2.1
  have hA1 : lPA A c h1 := by rw [← eh1]; exact hA.gd
  have B1 : cI A ≠ 0 → bgM A s h1 := fun z0 => by rw [← eh1]; exact (B z0).gd
  have q15 : h1.2.2.2.1 196 15 = some 199 := by rw [F1.2.1]; exact r15
  have q17 := S1.2.1
  have z196 : zsh h1 196 = some (12, 39) := zsh_by S1.1 (by decide +kernel)
  have z199 : zsh h1 199 = some (14, 363) := zsh_by S1.1 (by decide +kernel)
  have z201 : zsh h1 201 = some (14, 76) := zsh_by S1.1 (by decide +kernel)
  have ref : (∀ b k : Nat, x = nI b → y = nI k → b < cB A → k < lB A b → False) → ∀ N, zPn N none d mX12_tune (27, [(0, .inr (.inr (some 196))), (1, .inl x), (2, .inl y), (3, .inl z)], [], h1) (fun v g => mwF h g ∧ tunO A s H J x y z v (g.2.1 196 11) (fun s H J => lNM A s H J g)) := fun hr N => by
    refine pa_aload_n (pc' := 28) dX12_tune_27 rfl rfl ?_
    refine pa_iconst (v := nI 1) (pc' := 29) dX12_tune_28 (by decide) rfl ?_
    refine pa_callv (pc' := 32) (vs := [.inl (nI 1)]) (rest := []) dX12_tune_29 ml_12_427 (by decide) rfl rfl rfl (fun d' _ => (m_isN z196)) (fun v g3 hq => ?_)
    obtain ⟨ev, eh⟩ := hq
    subst ev
    show zPn N none d mX12_tune (32, _, [.inl 0], g3) _
    subst eh
    refine pa_iret dX12_tune_32 rfl rfl ?_
    exact ⟨F1.tr mwF.t, .inl ⟨hr, rfl, by rw [zsI_at, if_pos ⟨rfl, rfl⟩]; rfl, L1.ch b3 b4 (fun b k w1 w2 w3 => by rw [zsI_at, if_neg (by omega)])⟩⟩
  show zPn N none d mX12_tune (0, [(0, .inr (.inr (some 196))), (1, .inl x), (2, .inl y), (3, .inl z)], [], h) _
  refine pa_aload_n (pc' := 1) dX12_tune_0 rfl rfl ?_
  refine pa_callv (pc' := 4) (vs := []) (rest := []) dX12_tune_1 ml_12_167 (by decide) rfl rfl rfl (fun d' _ => (m_good s196)) (fun v g hq => ?_)
  obtain ⟨ev, eh⟩ := hq
  subst ev
  show zPn N none d mX12_tune (4, _, [], g) _
  rw [eh1] at eh
  subst eh
  refine pa_aload_n (pc' := 5) dX12_tune_4 rfl rfl ?_
  refine pa_iload_n (pc' := 6) dX12_tune_5 rfl rfl ?_
  refine pa_callv (pc' := 9) (vs := [.inl x]) (rest := []) dX12_tune_6 ml_12_274 (by decide) rfl rfl rfl (fun d' _ => (M_isBox hA1 q15 S1.1)) (fun v g9 hq => ?_)
  obtain ⟨ev, eh⟩ := hq
  subst ev
  rw [eh]
  show zPn N none d mX12_tune (9, _, [.inl (if 0 ≤ x.toInt ∧ x.toInt < (cB A:Int) then 1 else 0)], g) _
  by_cases hx : 0 ≤ x.toInt ∧ x.toInt < (cB A : Int)
  case neg =>
    rw [if_neg hx]
    refine pa_if_t (pc' := 27) dX12_tune_9 (by decide) (by decide) ?_
    exact ref (fun b k e1 e2 e3 e4 => hx (by rw [e1, nI_toInt (by omega)]; omega)) _
  rw [if_pos hx]
  refine pa_if_f (pc' := 12) dX12_tune_9 (by decide) (by decide) rfl ?_
  obtain ⟨b, eb, hb⟩ : ∃ b : Nat, x = nI b ∧ b < cB A := ⟨x.toInt.toNat, Int32.toInt_inj.mp (by rw [nI_toInt (by omega)]; omega), by omega⟩
  have B1 := B1 (hA.has hb)
  obtain ⟨-, hT, hB, hO⟩ := B1.1
  obtain ⟨-, q2, -⟩ := num_box hI hB hT hb
  have eto := B1.2.2.2.2.2 b hb 1 (by decide)
  have nto := (num_box hI hB hT hb).2.2.2.2 1 (by decide)
  have eto : g.2.1 199 (127 + 4 * b + 1) = nI (nu A (128 + 4 * b)) := by
    rw [eto, nto, show 127 + 4 * b + 1 = 128 + 4 * b by omega]
  have l6 : lB A b ≤ 6 := (B1.2.2.1.2.2.2.2 _ q2).2.2.2
  obtain ⟨ok, ol, oc⟩ := hO.2.2 b hb
  obtain ⟨n2, n4, -⟩ := B1.2.2.1.2.2.2.1
  have e0 : g.2.1 199 0 = nI (ntA A) := B1.2.2.1.2.2.1.1
  subst eb
  refine pa_iload_n (pc' := 13) dX12_tune_12 rfl rfl ?_
  refine pa_iconst (v := 0) (pc' := 14) dX12_tune_13 (by decide) rfl ?_
  refine pa_aload_n (pc' := 15) dX12_tune_14 rfl rfl ?_
  refine pa_iload_n (pc' := 16) dX12_tune_15 rfl rfl ?_
  refine pa_callv (pc' := 19) (vs := [.inl (nI b)]) (rest := [.inl 0, .inl y]) dX12_tune_16 ml_12_284 (by decide) rfl rfl rfl (fun d' _ => (M_boxLong B1.2.2.1 (by omega) eto q2)) (fun v g9 hq => ?_)
  obtain ⟨ev, eh⟩ := hq
  subst ev
  rw [eh]
  show zPn N none d mX12_tune (19, _, [.inl (nI (lB A b)), .inl 0, .inl y], g) _
  refine pa_iconst (v := 1) (pc' := 20) dX12_tune_19 (by decide) rfl ?_
  refine pa_isub (pc' := 21) dX12_tune_20 rfl rfl ?_
  refine pa_calls (pc' := 24) (kd := 1) (vs := [.inl y, .inl 0, .inl (nI (lB A b) - 1)]) (rest := []) dX12_tune_21 ml_12_149 (.inl rfl) rfl rfl rfl (fun d' _ => in_ex2) (fun v g3 hq => ?_)
  obtain ⟨eh, hq⟩ := hq
  rw [eh]
  have pr := nI_prd (lB A b) (by omega)
  rcases hq with ⟨ev, w1, w2⟩ | ⟨ev, w⟩
  case inr =>
    subst ev
    show zPn N none d mX12_tune (24, [(0, .inr (.inr (some 196))), (1, .inl (nI b)), (2, .inl y), (3, .inl z)], [.inl 0], _) _
    refine pa_if_f (pc' := 27) dX12_tune_24 (by decide) (by decide) rfl ?_
    refine ref (fun b' k e1 e2 e3 e4 => ?_) _
    have eb : b' = b := (nI_eq (by omega) (by omega)).mp e1.symm
    rw [eb] at e4
    rw [Int32.le_iff_toInt_le, Int32.le_iff_toInt_le, pr, k0, e2, nI_toInt (by omega)] at w
    omega
  subst ev
  have w1 := Int32.le_iff_toInt_le.mp w1
  have w2 := Int32.le_iff_toInt_le.mp w2
  rw [k0] at w1
  rw [pr] at w2
  obtain ⟨k, ek, hk⟩ : ∃ k : Nat, y = nI k ∧ k < lB A b := ⟨y.toInt.toNat, Int32.toInt_inj.mp (by rw [nI_toInt (by omega)]; omega), by omega⟩
  subst ek
  clear ref
  show zPn N none d mX12_tune (24, [(0, .inr (.inr (some 196))), (1, .inl (nI b)), (2, .inl (nI k)), (3, .inl z)], [.inl 1], _) _
  refine pa_if_t (pc' := 33) dX12_tune_24 (by decide) (by decide) ?_
  refine pa_iload_n (pc' := 34) dX12_tune_33 rfl rfl ?_
  refine pa_iconst (v := 0) (pc' := 35) dX12_tune_34 (by decide) rfl ?_
  refine pa_aload_n (pc' := 36) dX12_tune_35 rfl rfl ?_
  refine pa_getR (pc' := 39) (n := 39) (r := 199) dX12_tune_36 fl_12_20 z196 (by decide) q15 rfl ?_
  refine pa_iconst (v := nI 0) (pc' := 40) dX12_tune_39 (by decide) rfl ?_
  refine pa_iald (pc' := 41) dX12_tune_40 z199 rfl (fun _ => ?_)
  rw [nI_clamp (by omega), e0]
  refine pa_iconst (v := 1) (pc' := 42) dX12_tune_41 (by decide) rfl ?_
  refine pa_isub (pc' := 43) dX12_tune_42 rfl rfl ?_
  refine pa_calls (pc' := 46) (kd := 1) (vs := [.inl z, .inl 0, .inl (nI (ntA A) - 1)]) (rest := []) dX12_tune_43 ml_12_149 (.inl rfl) rfl rfl rfl (fun d' _ => in_ex2) (fun v g3 hq => ?_)
  obtain ⟨eh, hq⟩ := hq
  rw [eh]
  have pr2 := nI_prd (ntA A) (by omega)
  rcases hq with ⟨ev, u1, u2⟩ | ⟨ev, u⟩
  case inr =>
    subst ev
    show zPn N none d mX12_tune (46, [(0, .inr (.inr (some 196))), (1, .inl (nI b)), (2, .inl (nI k)), (3, .inl z)], [.inl 0], _) _
    refine pa_if_f (pc' := 49) dX12_tune_46 (by decide) (by decide) rfl ?_
    refine pa_aload_n (pc' := 50) dX12_tune_49 rfl rfl ?_
    refine pa_iconst (v := nI 2) (pc' := 51) dX12_tune_50 (by decide) rfl ?_
    refine pa_callv (pc' := 54) (vs := [.inl (nI 2)]) (rest := []) dX12_tune_51 ml_12_427 (by decide) rfl rfl rfl (fun d' _ => (m_isN z196)) (fun v g4 hq => ?_)
    obtain ⟨ev, eh⟩ := hq
    subst ev
    show zPn N none d mX12_tune (54, _, [.inl 0], g4) _
    subst eh
    refine pa_iret dX12_tune_54 rfl rfl ?_
    refine ⟨F1.tr mwF.t, .inr ⟨b, k, rfl, rfl, hb, hk, .inl ⟨fun q => ?_, rfl, by rw [zsI_at, if_pos ⟨rfl, rfl⟩]; rfl, L1.ch b3 b4 (fun b k w1 w2 w3 => by rw [zsI_at, if_neg (by omega)])⟩⟩⟩
    rw [Int32.le_iff_toInt_le, Int32.le_iff_toInt_le, pr2, k0] at u
    omega
  subst ev
  have u1 := Int32.le_iff_toInt_le.mp u1
  have u2 := Int32.le_iff_toInt_le.mp u2
  rw [k0] at u1
  rw [pr2] at u2
  obtain ⟨n, en, hn⟩ : ∃ n : Nat, z = nI n ∧ n < ntA A := ⟨z.toInt.toNat, Int32.toInt_inj.mp (by rw [nI_toInt (by omega)]; omega), by omega⟩
  subst en
  have m4 := L1.1.1.2.2.2 b hb
  have ed : g.2.1 201 (28 + 6 * b + k) = nI (dg ((s.2.2.2.2.2 b).getD k 0)) := by
    have := m4.2.2 k (by omega)
    rw [Nat.zero_add] at this
    exact this
  have ec : g.2.1 201 (12 + b) = tDy (s.2.2.2.2.1 b) := by
    have := m4.1
    rw [Nat.zero_add] at this
    exact this
  have dl := dg_lt ok (k := k) (by omega)
  show zPn N none d mX12_tune (46, [(0, .inr (.inr (some 196))), (1, .inl (nI b)), (2, .inl (nI k)), (3, .inl (nI n))], [.inl 1], _) _
  refine pa_if_t (pc' := 55) dX12_tune_46 (by decide) (by decide) ?_
  refine pa_aload_n (pc' := 56) dX12_tune_55 rfl rfl ?_
  refine pa_getR (pc' := 59) (n := 39) (r := 201) dX12_tune_56 fl_12_26 z196 (by decide) q17 rfl ?_
  refine pa_bipush (v := nI 28) (pc' := 61) dX12_tune_59 (by decide) rfl ?_
  refine pa_bipush (v := nI 6) (pc' := 63) dX12_tune_61 (by decide) rfl ?_
  refine pa_iload_n (pc' := 64) dX12_tune_63 rfl rfl ?_
  refine pa_imul (pc' := 65) (v := nI (6 * b)) dX12_tune_64 (nI_mul _ _) rfl ?_
  refine pa_iadd (pc' := 66) (v := nI (28 + 6 * b)) dX12_tune_65 (nI_add _ _) rfl ?_
  refine pa_iload_n (pc' := 67) dX12_tune_66 rfl rfl ?_
  refine pa_iadd (pc' := 68) (v := nI (28 + 6 * b + k)) dX12_tune_67 (nI_add _ _) rfl ?_
  refine pa_iald (pc' := 69) dX12_tune_68 z201 rfl (fun _ => ?_)
  rw [nI_clamp (by omega), ed]
  refine pa_iload_n (pc' := 70) dX12_tune_69 rfl rfl ?_
  have fin : (s.2.2.2.2.1 b ≠ none ∨ dg ((s.2.2.2.2.2 b).getD k 0) = n) → ∀ N, zPn N none d mX12_tune (85, [(0, .inr (.inr (some 196))), (1, .inl (nI b)), (2, .inl (nI k)), (3, .inl (nI n))], [], g) (fun v g => mwF h g ∧ tunO A s H J (nI b) (nI k) (nI n) v (g.2.1 196 11) (fun s H J => lNM A s H J g)) := fun q N => by
    refine pa_aload_n (pc' := 86) dX12_tune_85 rfl rfl ?_
    refine pa_iconst (v := nI 5) (pc' := 87) dX12_tune_86 (by decide) rfl ?_
    refine pa_callv (pc' := 90) (vs := [.inl (nI 5)]) (rest := []) dX12_tune_87 ml_12_427 (by decide) rfl rfl rfl (fun d' _ => (m_isN z196)) (fun v g4 hq => ?_)
    obtain ⟨ev, eh⟩ := hq
    subst ev
    show zPn N none d mX12_tune (90, _, [.inl 0], g4) _
    subst eh
    refine pa_iret dX12_tune_90 rfl rfl ?_
    exact ⟨F1.tr mwF.t, .inr ⟨b, k, rfl, rfl, hb, hk, .inr ⟨n, rfl, hn, .inl ⟨q, rfl, by rw [zsI_at, if_pos ⟨rfl, rfl⟩]; rfl, L1.ch b3 b4 (fun b k w1 w2 w3 => by rw [zsI_at, if_neg (by omega)])⟩⟩⟩⟩
  by_cases hd : dg ((s.2.2.2.2.2 b).getD k 0) = n
  case pos =>
    refine pa_icmp_t (pc' := 85) dX12_tune_70 (decide_eq_true (by rw [hd])) (by decide) ?_
    exact fin (.inr hd) _
  refine pa_icmp_f (pc' := 73) dX12_tune_70 (decide_eq_false (fun q => hd ((nI_eq (by omega) (by omega)).mp q))) (by decide) rfl ?_
  refine pa_aload_n (pc' := 74) dX12_tune_73 rfl rfl ?_
  refine pa_getR (pc' := 77) (n := 39) (r := 201) dX12_tune_74 fl_12_26 z196 (by decide) q17 rfl ?_
  refine pa_bipush (v := nI 12) (pc' := 79) dX12_tune_77 (by decide) rfl ?_
  refine pa_iload_n (pc' := 80) dX12_tune_79 rfl rfl ?_
  refine pa_iadd (pc' := 81) (v := nI (12 + b)) dX12_tune_80 (nI_add _ _) rfl ?_
  refine pa_iald (pc' := 82) dX12_tune_81 z201 rfl (fun _ => ?_)
  rw [nI_clamp (by omega), ec]
  cases o : s.2.2.2.2.1 b with
  | some p =>
    have pl := (oc p o).2
    have nb := nSn_le s (cB A)
    refine pa_if_f (pc' := 85) dX12_tune_82 (by rw [zcond_i]; exact decide_eq_false (by rw [show tDy (some p) = nI (p.1 + 1) from rfl, nI_toInt (by omega), k0]; omega)) (by decide) rfl ?_
    exact fin (.inl (by rw [o]; exact fun q => nomatch q)) _
  | none =>
    clear fin
    refine pa_if_t (pc' := 91) dX12_tune_82 (by decide) (by decide) ?_
    refine pa_aload_n (pc' := 92) dX12_tune_91 rfl rfl ?_
    refine pa_callv (pc' := 95) (vs := []) (rest := []) dX12_tune_92 ml_12_424 (by decide) rfl rfl rfl (fun d' _ => (M_note1 S1 b3 b4 L1)) (fun v g5 hq => ?_)
    obtain ⟨ev, eh⟩ := hq
    subst ev
    show zPn N none d mX12_tune (95, _, [], g5) _
    obtain ⟨F5, L5, O5⟩ := eh
    have S5 := S1.fr F5.1 F5.2.1
    have q196 : zsh g5 196 = some (12, 39) := zsh_by S5.1 (by decide +kernel)
    have q201 : zsh g5 201 = some (14, 76) := zsh_by S5.1 (by decide +kernel)
    have x17 := S5.2.1
    refine pa_aload_n (pc' := 96) dX12_tune_95 rfl rfl ?_
    refine pa_getR (pc' := 99) (n := 39) (r := 201) dX12_tune_96 fl_12_26 q196 (by decide) x17 rfl ?_
    refine pa_bipush (v := nI 28) (pc' := 101) dX12_tune_99 (by decide) rfl ?_
    refine pa_bipush (v := nI 6) (pc' := 103) dX12_tune_101 (by decide) rfl ?_
    refine pa_iload_n (pc' := 104) dX12_tune_103 rfl rfl ?_
    refine pa_imul (pc' := 105) (v := nI (6 * b)) dX12_tune_104 (nI_mul _ _) rfl ?_
    refine pa_iadd (pc' := 106) (v := nI (28 + 6 * b)) dX12_tune_105 (nI_add _ _) rfl ?_
    refine pa_iload_n (pc' := 107) dX12_tune_106 rfl rfl ?_
    refine pa_iadd (pc' := 108) (v := nI (28 + 6 * b + k)) dX12_tune_107 (nI_add _ _) rfl ?_
    refine pa_iload_n (pc' := 109) dX12_tune_108 rfl rfl ?_
    refine pa_iast (pc' := 110) dX12_tune_109 q201 rfl (fun _ => ?_)
    rw [nI_clamp (by omega)]
    refine pa_iconst (v := 1) (pc' := 111) dX12_tune_110 (by decide) rfl ?_
    refine pa_iret dX12_tune_111 rfl rfl ?_
    have out : ∀ a j, (a = 201 → j ≠ 28 + 6 * b + k) → (zsI g5 201 (28 + 6 * b + k) (nI n)).2.1 a j = g5.2.1 a j := fun a j w1 => by rw [zsI_at, if_neg (by omega)]
    have t5 : g5.2.1 196 11 = 0 := (O5 196 11 (by decide) (by omega)).trans t11
    obtain ⟨⟨⟨m1, m3, m4, m5⟩, l1⟩, ⟨e20, hl, hh⟩, j1, j2, j3⟩ := L5
    refine ⟨F1.tr (F5.tr ⟨rfl, rfl, fun k w1 w2 w3 w4 => out _ _ (by omega), fun a k w1 w2 w3 w4 => out _ _ (by omega)⟩), .inr ⟨b, k, rfl, rfl, hb, hk, .inr ⟨n, rfl, hn, .inr ⟨o, hd, rfl, (out _ _ (by omega)).trans t5, ⟨⟨(out _ _ (by omega)).trans m1, (out _ _ (by omega)).trans m3, fun j hj => ⟨(out _ _ (by omega)).trans (m4 j hj).1, (out _ _ (by omega)).trans (m4 j hj).2⟩, fun j hj => ⟨(out _ _ (by omega)).trans (m5 j hj).1, (out _ _ (by omega)).trans (m5 j hj).2.1, fun i hi => ?_⟩⟩, fun j hj => ?_⟩, ⟨(out _ _ (by omega)).trans e20, hl, fun k t hk => ⟨nMo.cp b3 b4 (hh k t hk).2 (fun j hj => out _ _ (by omega)) (hh k t hk).1, (hh k t hk).2⟩⟩, (out _ _ (by omega)).trans j1, j2, fun k t hk => ⟨nMo.cp b3 b4 (j3 k t hk).2 (fun j hj => out _ _ (by omega)) (j3 k t hk).1, (j3 k t hk).2⟩⟩⟩⟩⟩
    · have hi2 : i < (if j = b then tnL (s.2.2.2.2.2 b) k n else s.2.2.2.2.2 j).length := hi
      clear hi
      show _ = nI (dg ((if j = b then tnL (s.2.2.2.2.2 b) k n else s.2.2.2.2.2 j).getD i 0))
      by_cases z : j = b
      · rw [if_pos z] at hi2 ⊢
        rw [tnL_len] at hi2
        subst z
        unfold tnL
        by_cases y : i = k
        · subst y
          rw [Nat.zero_add, zsI_at, if_pos ⟨rfl, rfl⟩, List.getD_eq_getElem?_getD, List.getElem?_set_self hi2]
          show nI n = nI (dg (nI (97 + n)))
          congr 1
          unfold dg
          rw [nI_toInt (by omega)]
          omega
        · rw [out _ _ (by omega), List.getD_eq_getElem?_getD, List.getElem?_set_ne (fun q => y q.symm), ← List.getD_eq_getElem?_getD]
          exact (m5 j hj).2.2 i hi2
      · rw [if_neg z] at hi2 ⊢
        have := l1 j hj
        rw [out _ _ (by omega)]
        exact (m5 j hj).2.2 i hi2
    · show (if j = b then tnL (s.2.2.2.2.2 b) k n else s.2.2.2.2.2 j).length ≤ 6
      by_cases z : j = b
      · rw [if_pos z, tnL_len]
        exact l1 b hb
      · rw [if_neg z]
        exact l1 j hj
end TUM
/-! a fresh state: what post leaves in the class -/
theorem zsR_at {h : zH} {a k b j : Nat} {x : Option Nat} : (zsR h a k x).2.2.2.1 b j = if b = a ∧ j = k then x else h.2.2.2.1 b j := by
  show (if b = a then (if j = k then x else h.2.2.2.1 b j) else h.2.2.2.1 b j) = _
  by_cases z : b = a
  · by_cases y : j = k
    · rw [if_pos z, if_pos y, if_pos ⟨z, y⟩]
    · rw [if_pos z, if_neg y, if_neg (fun q => y q.2)]
  · rw [if_neg z, if_neg (fun q => z q.1)]
theorem zsR_no {h : zH} {a k b j : Nat} {x : Option Nat} (hn : ¬ (b = a ∧ j = k)) : (zsR h a k x).2.2.2.1 b j = h.2.2.2.1 b j := by rw [zsR_at, if_neg hn]
theorem zsR_eq {h : zH} {a k : Nat} {x : Option Nat} : (zsR h a k x).2.2.2.1 a k = x := by rw [zsR_at, if_pos ⟨rfl, rfl⟩]
/-- the state of a post that was just told -/
def nS0 (A : pA) : nS := (0, 0, fun w => nu A (108 + 4 * w), fun _ => 0, fun _ => none, fun b => A.2.2.1 (nu A (128 + 4 * b)))
def bgF (h g : zH) : Prop := g.1 = h.1 ∧ g.2.2 = h.2.2 ∧ ∀ b k, (b < 86 ∨ 91 < b) → g.2.1 b k = h.2.1 b k
section BGN
variable {d N c w b j k : Nat} {h g : zH} {A : pA}
theorem bgF.rf : bgF h h := ⟨rfl, rfl, fun _ _ _ => rfl⟩
theorem bgF.st {v : Int32} (f : bgF h g) (e1 : 86 ≤ b) (e2 : b ≤ 91) : bgF h (zsI g b k v) := ⟨f.1, f.2.1, fun a i e => (zsI_no (by omega)).trans (f.2.2 a i e)⟩
theorem cSh (hc : cc2 c) (h1 : h.1 = hh_487.1) : zsh h c = some (4, 15) ∧ zsh h (c + 1) = some (14, 7) ∧ zsh h (c + 2) = some (14, 7) ∧ zsh h (c + 4) = some (20, 5) ∧ zsh h (c + 5) = some (16, 8) ∧ (∀ w, w < 5 → zsh h (c + 19 + w) = some (10, 4)) ∧ ∀ b, b < 8 → zsh h (c + 24 + b) = some (0, 4) := by
  have ew : ∀ w, w < 5 → zsh hh_487 (2 + 19 + w) = some (10, 4) ∧ zsh hh_487 (42 + 19 + w) = some (10, 4) := by decide +kernel
  have eb : ∀ w, w < 8 → zsh hh_487 (2 + 24 + w) = some (0, 4) ∧ zsh hh_487 (42 + 24 + w) = some (0, 4) := by decide +kernel
  have hc : c = 2 ∨ c = 42 := hc
  rcases hc with z | z <;> subst z
  · exact ⟨zsh_by h1 (by decide +kernel), zsh_by h1 (by decide +kernel), zsh_by h1 (by decide +kernel), zsh_by h1 (by decide +kernel), zsh_by h1 (by decide +kernel), fun w hw => zsh_by h1 (ew w hw).1, fun w hw => zsh_by h1 (eb w hw).1⟩
  · exact ⟨zsh_by h1 (by decide +kernel), zsh_by h1 (by decide +kernel), zsh_by h1 (by decide +kernel), zsh_by h1 (by decide +kernel), zsh_by h1 (by decide +kernel), fun w hw => zsh_by h1 (ew w hw).2, fun w hw => zsh_by h1 (eb w hw).2⟩
theorem rcC.num (K : rcC A c h) (e : A.2.2.1 (1000 + j) ≠ []) : h.2.1 (c + oX j) (sX j) = vA A j := (K.2.2.2.2.2.2.2.2.2 j e).2
theorem rcC.wh (K : rcC A c h) (hT : tA A) (hI : pI A) (hw : w < cH A) (hj : j < 4) : h.2.1 (c + 19 + w) j = vA A (107 + 4 * w + j) := by
  have b3 := hI.2.2.1.2.2.1
  have := K.num (hT.2.2.1 w hw j hj)
  have e1 : c + oX (107 + 4 * w + j) = c + 19 + w := by
    unfold oX
    rw [if_neg (by omega), if_neg (by omega), if_pos (by omega)]
    omega
  have e2 : sX (107 + 4 * w + j) = j := by
    unfold sX
    rw [if_neg (by omega), if_neg (by omega), if_pos (by omega)]
    omega
  rw [e1, e2] at this
  exact this
theorem rcC.bo (K : rcC A c h) (hT : tA A) (hI : pI A) (hb : b < cB A) (hj : j < 4) : h.2.1 (c + 24 + b) j = vA A (127 + 4 * b + j) := by
  have b4 := hI.2.2.1.2.2.2.1
  have := K.num (hT.2.2.2.1 b hb j hj)
  have e1 : c + oX (127 + 4 * b + j) = c + 24 + b := by
    unfold oX
    rw [if_neg (by omega), if_neg (by omega), if_neg (by omega), if_pos (by omega)]
    omega
  have e2 : sX (127 + 4 * b + j) = j := by
    unfold sX
    rw [if_neg (by omega), if_neg (by omega), if_neg (by omega), if_pos (by omega)]
    omega
  rw [e1, e2] at this
  exact this
theorem rcC.wy (K : rcC A c h) (hT : tA A) (hI : pI A) (hk : k < cW A) : h.2.1 (c + 7 + k) 2 = vA A (61 + 4 * k) ∧ h.2.1 (c + 7 + k) 3 = vA A (62 + 4 * k) := by
  have b2 := hI.2.2.1.2.1
  have t2 := K.num (hT.2.1 k hk).1
  have t3 := K.num (hT.2.1 k hk).2
  have e1 : c + oX (61 + 4 * k) = c + 7 + k ∧ c + oX (62 + 4 * k) = c + 7 + k := by
    unfold oX
    rw [if_neg (by omega), if_pos (by omega), if_neg (by omega), if_pos (by omega)]
    omega
  have e2 : sX (61 + 4 * k) = 2 ∧ sX (62 + 4 * k) = 3 := by
    unfold sX
    rw [if_neg (by omega), if_pos (by omega), if_neg (by omega), if_pos (by omega)]
    omega
  rw [e1.1, e2.1] at t2
  rw [e1.2, e2.2] at t3
  exact ⟨t2, t3⟩
theorem rcC.home (K : rcC A c h) (hT : tA A) (hB : tB A) (hI : pI A) (hw : w < cH A) : h.2.1 (c + 19 + w) 1 = nI (nu A (108 + 4 * w)) := by
  rw [K.wh hT hI hw (by decide), (num_whale hI hB hT hw).2.2.2.2 1 (by decide), show 107 + 4 * w + 1 = 108 + 4 * w by omega]
theorem rcC.boto (K : rcC A c h) (hT : tA A) (hB : tB A) (hI : pI A) (hb : b < cB A) : h.2.1 (c + 24 + b) 1 = nI (nu A (128 + 4 * b)) := by
  rw [K.bo hT hI hb (by decide), (num_box hI hB hT hb).2.2.2.2 1 (by decide), show 127 + 4 * b + 1 = 128 + 4 * b by omega]
/-- the references of a post -/
def cRf (c : Nat) (h : zH) : Prop := h.2.2.2.1 c 9 = some (c + 1) ∧ h.2.2.2.1 c 12 = some (c + 4) ∧ h.2.2.2.1 c 13 = some (c + 5) ∧ (∀ w, w < 5 → h.2.2.2.1 (c + 4) w = some (c + 19 + w)) ∧ ∀ b, b < 8 → h.2.2.2.1 (c + 5) b = some (c + 24 + b)
theorem N_begin (hc : cc2 c) (h1 : h.1 = hh_487.1) (hI : pI A) (hT : tA A) (hB : tB A) (K : rcC A c h) (o : nwO 86 h) (R : cRf c h) : zPa d mX2_begin [.inr (.inr (some 86)), .inr (.inr (some c))] h (fun v g => v = none ∧ bgF h g ∧ nC A (nS0 A) 86 g) := by
  intro N
  obtain ⟨b1, b2, b3, b4, b5⟩ := hI.2.2.1
  have hc2 : c = 2 ∨ c = 42 := hc
  have lp2 : ∀ (N k : Nat) (ls : zL) (g : zH), k ≤ cB A → bgF h g → g.2.1 86 0 = nI 0 → g.2.1 86 1 = 0 → (∀ w, w < cH A → g.2.1 87 w = nI (nu A (108 + 4 * w)) ∧ g.2.1 88 w = nI 0) → (∀ b, b < k → g.2.1 89 b = -2 ∧ g.2.1 90 b = -2 ∧ g.2.1 91 b = codeS (A.2.2.1 (nu A (128 + 4 * b)))) → zget ls 0 = some (.inr (.inr (some 86))) → zget ls 1 = some (.inr (.inr (some c))) → zget ls 2 = some (.inl (nI k)) → zPn N none d mX2_begin (50, ls, [], g) (fun v g => v = none ∧ bgF h g ∧ nC A (nS0 A) 86 g) := by
    intro N
    induction N with
    | zero => intros; exact zPn.zero
    | succ N ih =>
      intro k ls g hk F y0 y1 yw yb hl0 hl1 hl2
      have e : ∀ a j, (a < 86 ∨ 91 < a) → g.2.1 a j = h.2.1 a j := F.2.2
      obtain ⟨sc, sc1, -, sc4, sc5, sw, sb⟩ := cSh hc (F.1.trans h1)
      have z86 : zsh g 86 = some (2, 7) := zsh_by (F.1.trans h1) (by decide +kernel)
      have z89 : zsh g 89 = some (14, 8) := zsh_by (F.1.trans h1) (by decide +kernel)
      have z90 : zsh g 90 = some (14, 8) := zsh_by (F.1.trans h1) (by decide +kernel)
      have z91 : zsh g 91 = some (14, 8) := zsh_by (F.1.trans h1) (by decide +kernel)
      have e7 : g.2.1 c 7 = nI (cB A) := (e _ _ (by omega)).trans K.2.2.2.2.1
      obtain ⟨-, -, r4, r5, r6⟩ := o.2
      have r4 : g.2.2.2.1 86 4 = some 89 := by rw [F.2.1]; exact r4
      have r5 : g.2.2.2.1 86 5 = some 90 := by rw [F.2.1]; exact r5
      have r6 : g.2.2.2.1 86 6 = some 91 := by rw [F.2.1]; exact r6
      obtain ⟨c9, -, c13, -, cb⟩ := R
      have c9 : g.2.2.2.1 c 9 = some (c + 1) := by rw [F.2.1]; exact c9
      have c13 : g.2.2.2.1 c 13 = some (c + 5) := by rw [F.2.1]; exact c13
      refine pa_iload_n (pc' := 51) dX2_begin_50 hl2 rfl ?_
      refine pa_aload_n (pc' := 52) dX2_begin_51 hl1 rfl ?_
      refine pa_getI (pc' := 55) (n := 15) (v := nI (cB A)) dX2_begin_52 fl_2_48 sc (by decide) e7 rfl ?_
      refine pa_icmp (pc' := 100) (pc2 := 58) dX2_begin_55 (by decide) rfl (fun z => ?_) (fun z => ?_)
      · have z := zi_nlt (zk_ge_lt z)
        rw [nI_toInt (by omega), nI_toInt (by omega)] at z
        refine pa_vret dX2_begin_100 rfl ?_
        have ek : k = cB A := by omega
        subst ek
        exact ⟨rfl, F, y0, y1, yw, yb⟩
      · have z := zi_lt (zk_ge_lt z)
        rw [nI_toInt (by omega), nI_toInt (by omega)] at z
        have sb := sb k (by omega)
        have cb : g.2.2.2.1 (c + 5) k = some (c + 24 + k) := by rw [F.2.1]; exact cb k (by omega)
        have q1 : g.2.1 (c + 24 + k) 1 = nI (nu A (128 + 4 * k)) := (e _ _ (by omega)).trans (K.boto hT hB hI (by omega))
        obtain ⟨-, q2, -⟩ := num_box hI hB hT (b := k) (by omega)
        have q3 : g.2.1 (c + 1) (nu A (128 + 4 * k)) = codeS (A.2.2.1 (nu A (128 + 4 * k))) := (e _ _ (by omega)).trans (K.2.2.2.2.2.2.1 _ q2).2
        refine pa_aload_n (pc' := 59) dX2_begin_58 hl0 rfl ?_
        refine pa_getR (pc' := 62) (n := 7) (r := 89) dX2_begin_59 fl_2_25 z86 (by decide) r4 rfl ?_
        refine pa_iload_n (pc' := 63) dX2_begin_62 hl2 rfl ?_
        refine pa_bipush (v := (-2)) (pc' := 65) dX2_begin_63 (by decide) rfl ?_
        refine pa_iast (pc' := 66) dX2_begin_65 z89 rfl (fun _ => ?_)
        rw [nI_clamp (by omega)]
        refine pa_aload_n (pc' := 67) dX2_begin_66 hl0 rfl ?_
        refine pa_getR (pc' := 70) (n := 7) (r := 90) dX2_begin_67 fl_2_28 z86 (by decide) r5 rfl ?_
        refine pa_iload_n (pc' := 71) dX2_begin_70 hl2 rfl ?_
        refine pa_bipush (v := (-2)) (pc' := 73) dX2_begin_71 (by decide) rfl ?_
        refine pa_iast (pc' := 74) dX2_begin_73 z90 rfl (fun _ => ?_)
        rw [nI_clamp (by omega)]
        have q1' : (zsI (zsI g 89 k (-2)) 90 k (-2)).2.1 (c + 24 + k) 1 = nI (nu A (128 + 4 * k)) := by rw [zsI_no (by omega), zsI_no (by omega)]; exact q1
        have q3' : (zsI (zsI g 89 k (-2)) 90 k (-2)).2.1 (c + 1) (nu A (128 + 4 * k)) = codeS (A.2.2.1 (nu A (128 + 4 * k))) := by rw [zsI_no (by omega), zsI_no (by omega)]; exact q3
        refine pa_aload_n (pc' := 75) dX2_begin_74 hl0 rfl ?_
        refine pa_getR (pc' := 78) (n := 7) (r := 91) dX2_begin_75 fl_2_31 z86 (by decide) r6 rfl ?_
        refine pa_iload_n (pc' := 79) dX2_begin_78 hl2 rfl ?_
        refine pa_aload_n (pc' := 80) dX2_begin_79 hl1 rfl ?_
        refine pa_getR (pc' := 83) (n := 15) (r := c + 1) dX2_begin_80 fl_2_51 sc (by decide) c9 rfl ?_
        refine pa_aload_n (pc' := 84) dX2_begin_83 hl1 rfl ?_
        refine pa_getR (pc' := 87) (n := 15) (r := c + 5) dX2_begin_84 fl_2_54 sc (by decide) c13 rfl ?_
        refine pa_iload_n (pc' := 88) dX2_begin_87 hl2 rfl ?_
        refine pa_aald (pc' := 89) (r := c + 24 + k) dX2_begin_88 sc5 (by decide) (zn_in (by omega) (by omega)) (by rw [nI_clamp (by omega)]; exact cb) rfl ?_
        refine pa_getI (pc' := 92) (n := 4) (v := nI (nu A (128 + 4 * k))) dX2_begin_89 fl_2_58 sb (by decide) q1' rfl ?_
        refine pa_iald (pc' := 93) dX2_begin_92 sc1 rfl (fun _ => ?_)
        rw [nI_clamp (by omega), q3']
        refine pa_iast (pc' := 94) dX2_begin_93 z91 rfl (fun _ => ?_)
        rw [nI_clamp (by omega)]
        refine pa_iinc (pc' := 97) (v := nI (k + 1)) dX2_begin_94 hl2 (by decide) (nI_add k 1) rfl rfl ?_
        refine pa_gotos (pc' := 50) dX2_begin_97 (by decide) ?_
        have at' : ∀ a j, (zsI (zsI (zsI g 89 k (-2)) 90 k (-2)) 91 k (codeS (A.2.2.1 (nu A (128 + 4 * k))))).2.1 a j = if a = 91 ∧ j = k then codeS (A.2.2.1 (nu A (128 + 4 * k))) else if a = 90 ∧ j = k then -2 else if a = 89 ∧ j = k then -2 else g.2.1 a j := fun a j => by rw [zsI_at, zsI_at, zsI_at]
        refine ih (k + 1) _ _ (by omega) (((F.st (by decide) (by decide)).st (by decide) (by decide)).st (by decide) (by decide)) (by rw [at', if_neg (by omega), if_neg (by omega), if_neg (by omega)]; exact y0) (by rw [at', if_neg (by omega), if_neg (by omega), if_neg (by omega)]; exact y1) (fun w hw => ?_) (fun b hb => ?_) (zget_s1 hl0 (by decide) (by simp [zcat])) (zget_s1 hl1 (by decide) (by simp [zcat])) zget_s1e
        · rw [at', at', if_neg (by omega), if_neg (by omega), if_neg (by omega), if_neg (by omega), if_neg (by omega), if_neg (by omega)]
          exact yw w hw
        · rw [at', at', at']
          by_cases y : b = k
          · subst y
            rw [if_neg (by omega), if_neg (by omega), if_pos ⟨rfl, rfl⟩, if_neg (by omega), if_pos ⟨rfl, rfl⟩, if_pos ⟨rfl, rfl⟩]
            exact ⟨rfl, rfl, rfl⟩
          · rw [if_neg (by omega), if_neg (by omega), if_neg (by omega), if_neg (by omega), if_neg (by omega), if_neg (by omega), if_neg (by omega), if_neg (by omega), if_neg (by omega)]
            exact yb b (by omega)
  have lp1 : ∀ (N k : Nat) (ls : zL) (g : zH), k ≤ cH A → bgF h g → g.2.1 86 0 = nI 0 → g.2.1 86 1 = 0 → (∀ w, w < k → g.2.1 87 w = nI (nu A (108 + 4 * w)) ∧ g.2.1 88 w = nI 0) → zget ls 0 = some (.inr (.inr (some 86))) → zget ls 1 = some (.inr (.inr (some c))) → zget ls 2 = some (.inl (nI k)) → zPn N none d mX2_begin (12, ls, [], g) (fun v g => v = none ∧ bgF h g ∧ nC A (nS0 A) 86 g) := by
    intro N
    induction N with
    | zero => intros; exact zPn.zero
    | succ N ih =>
      intro k ls g hk F y0 y1 yw hl0 hl1 hl2
      have e : ∀ a j, (a < 86 ∨ 91 < a) → g.2.1 a j = h.2.1 a j := F.2.2
      obtain ⟨sc, -, -, sc4, -, sw, -⟩ := cSh hc (F.1.trans h1)
      have z86 : zsh g 86 = some (2, 7) := zsh_by (F.1.trans h1) (by decide +kernel)
      have z87 : zsh g 87 = some (14, 5) := zsh_by (F.1.trans h1) (by decide +kernel)
      have z88 : zsh g 88 = some (14, 5) := zsh_by (F.1.trans h1) (by decide +kernel)
      have e6 : g.2.1 c 6 = nI (cH A) := (e _ _ (by omega)).trans K.2.2.2.1
      obtain ⟨r2, r3, -, -, -⟩ := o.2
      have r2 : g.2.2.2.1 86 2 = some 87 := by rw [F.2.1]; exact r2
      have r3 : g.2.2.2.1 86 3 = some 88 := by rw [F.2.1]; exact r3
      obtain ⟨-, c12, -, cw, -⟩ := R
      have c12 : g.2.2.2.1 c 12 = some (c + 4) := by rw [F.2.1]; exact c12
      refine pa_iload_n (pc' := 13) dX2_begin_12 hl2 rfl ?_
      refine pa_aload_n (pc' := 14) dX2_begin_13 hl1 rfl ?_
      refine pa_getI (pc' := 17) (n := 15) (v := nI (cH A)) dX2_begin_14 fl_2_34 sc (by decide) e6 rfl ?_
      refine pa_icmp (pc' := 48) (pc2 := 20) dX2_begin_17 (by decide) rfl (fun z => ?_) (fun z => ?_)
      · have z := zi_nlt (zk_ge_lt z)
        rw [nI_toInt (by omega), nI_toInt (by omega)] at z
        have ek : k = cH A := by omega
        subst ek
        refine pa_iconst (v := nI 0) (pc' := 49) dX2_begin_48 (by decide) rfl ?_
        refine pa_istore_n (pc' := 50) dX2_begin_49 (by decide) rfl rfl ?_
        exact lp2 (N + 1) 0 _ _ (Nat.zero_le _) F y0 y1 yw (fun b hb => absurd hb (Nat.not_lt_zero b)) (zget_s1 hl0 (by decide) (by simp [zcat])) (zget_s1 hl1 (by decide) (by simp [zcat])) zget_s1e
      · have z := zi_lt (zk_ge_lt z)
        rw [nI_toInt (by omega), nI_toInt (by omega)] at z
        have sw := sw k (by omega)
        have cw : g.2.2.2.1 (c + 4) k = some (c + 19 + k) := by rw [F.2.1]; exact cw k (by omega)
        have q1 : g.2.1 (c + 19 + k) 1 = nI (nu A (108 + 4 * k)) := (e _ _ (by omega)).trans (K.home hT hB hI (by omega))
        refine pa_aload_n (pc' := 21) dX2_begin_20 hl0 rfl ?_
        refine pa_getR (pc' := 24) (n := 7) (r := 87) dX2_begin_21 fl_2_18 z86 (by decide) r2 rfl ?_
        refine pa_iload_n (pc' := 25) dX2_begin_24 hl2 rfl ?_
        refine pa_aload_n (pc' := 26) dX2_begin_25 hl1 rfl ?_
        refine pa_getR (pc' := 29) (n := 15) (r := c + 4) dX2_begin_26 fl_2_39 sc (by decide) c12 rfl ?_
        refine pa_iload_n (pc' := 30) dX2_begin_29 hl2 rfl ?_
        refine pa_aald (pc' := 31) (r := c + 19 + k) dX2_begin_30 sc4 (by decide) (zn_in (by omega) (by omega)) (by rw [nI_clamp (by omega)]; exact cw) rfl ?_
        refine pa_getI (pc' := 34) (n := 4) (v := nI (nu A (108 + 4 * k))) dX2_begin_31 fl_2_43 sw (by decide) q1 rfl ?_
        refine pa_iast (pc' := 35) dX2_begin_34 z87 rfl (fun _ => ?_)
        rw [nI_clamp (by omega)]
        refine pa_aload_n (pc' := 36) dX2_begin_35 hl0 rfl ?_
        refine pa_getR (pc' := 39) (n := 7) (r := 88) dX2_begin_36 fl_2_22 z86 (by decide) r3 rfl ?_
        refine pa_iload_n (pc' := 40) dX2_begin_39 hl2 rfl ?_
        refine pa_iconst (v := nI 0) (pc' := 41) dX2_begin_40 (by decide) rfl ?_
        refine pa_iast (pc' := 42) dX2_begin_41 z88 rfl (fun _ => ?_)
        rw [nI_clamp (by omega)]
        refine pa_iinc (pc' := 45) (v := nI (k + 1)) dX2_begin_42 hl2 (by decide) (nI_add k 1) rfl rfl ?_
        refine pa_gotos (pc' := 12) dX2_begin_45 (by decide) ?_
        have at' : ∀ a j, (zsI (zsI g 87 k (nI (nu A (108 + 4 * k)))) 88 k (nI 0)).2.1 a j = if a = 88 ∧ j = k then nI 0 else if a = 87 ∧ j = k then nI (nu A (108 + 4 * k)) else g.2.1 a j := fun a j => by rw [zsI_at, zsI_at]
        refine ih (k + 1) _ _ (by omega) ((F.st (by decide) (by decide)).st (by decide) (by decide)) (by rw [at', if_neg (by omega), if_neg (by omega)]; exact y0) (by rw [at', if_neg (by omega), if_neg (by omega)]; exact y1) (fun w hw => ?_) (zget_s1 hl0 (by decide) (by simp [zcat])) (zget_s1 hl1 (by decide) (by simp [zcat])) zget_s1e
        rw [at', at']
        by_cases y : w = k
        · subst y
          rw [if_neg (by omega), if_pos ⟨rfl, rfl⟩, if_pos ⟨rfl, rfl⟩]
          exact ⟨rfl, rfl⟩
        · rw [if_neg (by omega), if_neg (by omega), if_neg (by omega), if_neg (by omega)]
          exact yw w (by omega)
  have z86 : zsh h 86 = some (2, 7) := o.1.1
  show zPn N none d mX2_begin (0, [(0, .inr (.inr (some 86))), (1, .inr (.inr (some c)))], [], h) _
  refine pa_aload_n (pc' := 1) dX2_begin_0 rfl rfl ?_
  refine pa_iconst (v := nI 0) (pc' := 2) dX2_begin_1 (by decide) rfl ?_
  refine pa_putI (pc' := 5) (n := 7) dX2_begin_2 fl_2_9 z86 (Or.inl rfl) (Or.inl rfl) rfl ?_
  refine pa_aload_n (pc' := 6) dX2_begin_5 rfl rfl ?_
  refine pa_iconst (v := nI 0) (pc' := 7) dX2_begin_6 (by decide) rfl ?_
  refine pa_putI (pc' := 10) (n := 7) dX2_begin_7 fl_2_15 z86 (Or.inl rfl) (Or.inl rfl) rfl ?_
  refine pa_iconst (v := nI 0) (pc' := 11) dX2_begin_10 (by decide) rfl ?_
  refine pa_istore_n (pc' := 12) dX2_begin_11 (by decide) rfl rfl ?_
  exact lp1 N 0 _ _ (Nat.zero_le _) ((bgF.rf.st (by decide) (by decide)).st (by decide) (by decide)) (by rw [zsI_no (by omega), zsI_eq]) (by rw [zsI_eq]; rfl) (fun w hw => absurd hw (Nat.not_lt_zero w)) rfl rfl rfl
end BGN
section TKD
variable {d N c e : Nat} {h g : zH} {A : pA}
theorem N_take (hc : cc2 c) (S : nwS h) (hI : pI A) (hT : tA A) (hB : tB A) (K : rcC A c h) (R : cRf c h) (r3 : h.2.2.2.1 0 3 = some e) (r4 : h.2.2.2.1 0 4 = some c) (r7 : h.2.2.2.1 0 7 = some 92) (r8 : h.2.2.2.1 0 8 = some 94) (r9 : h.2.2.2.1 0 9 = some 96) : zPa d mX11_takeDraft [.inr (.inr (some 0))] h (fun v g => v = none ∧ g.2.1 0 13 = 0 ∧ nC A (nS0 A) 86 g) := by
  intro N
  have hc2 : c = 2 ∨ c = 42 := hc
  have s0 : zsh h 0 = some (11, 16) := zsh_by S.1 (by decide +kernel)
  have s92 : zsh h 92 = some (7, 6) := zsh_by S.1 (by decide +kernel)
  have s94 : zsh h 94 = some (6, 7) := zsh_by S.1 (by decide +kernel)
  have s96 : zsh h 96 = some (3, 4) := zsh_by S.1 (by decide +kernel)
  have r6 := S.2.1
  show zPn N none d mX11_takeDraft (0, [(0, .inr (.inr (some 0)))], [], h) _
  refine pa_aload_n (pc' := 1) dX11_takeDraft_0 rfl rfl ?_
  refine pa_getR (pc' := 4) (n := 16) (r := e) dX11_takeDraft_1 fl_11_23 s0 (by decide) r3 rfl ?_
  refine pa_astore_n (pc' := 5) dX11_takeDraft_4 (by decide) rfl rfl ?_
  refine pa_aload_n (pc' := 6) dX11_takeDraft_5 rfl rfl ?_
  refine pa_aload_n (pc' := 7) dX11_takeDraft_6 rfl rfl ?_
  refine pa_getR (pc' := 10) (n := 16) (r := c) dX11_takeDraft_7 fl_11_27 s0 (by decide) r4 rfl ?_
  refine pa_putR (pc' := 13) (n := 16) dX11_takeDraft_10 fl_11_23 s0 (Or.inl rfl) rfl rfl ?_
  refine pa_aload_n (pc' := 14) dX11_takeDraft_13 rfl rfl ?_
  refine pa_aload_n (pc' := 15) dX11_takeDraft_14 rfl rfl ?_
  refine pa_putR (pc' := 18) (n := 16) dX11_takeDraft_15 fl_11_27 s0 (Or.inl rfl) rfl rfl ?_
  refine pa_aload_n (pc' := 19) dX11_takeDraft_18 rfl rfl ?_
  refine pa_getR (pc' := 22) (n := 16) (r := 92) dX11_takeDraft_19 fl_11_51 s0 (by decide) ((zsR_no (by omega)).trans ((zsR_no (by omega)).trans r7)) rfl ?_
  refine pa_aload_n (pc' := 23) dX11_takeDraft_22 rfl rfl ?_
  refine pa_getR (pc' := 26) (n := 16) (r := c) dX11_takeDraft_23 fl_11_23 s0 (by decide) ((zsR_no (by omega)).trans zsR_eq) rfl ?_
  refine pa_putR (pc' := 29) (n := 6) dX11_takeDraft_26 fl_11_388 s92 (Or.inl rfl) rfl rfl ?_
  refine pa_aload_n (pc' := 30) dX11_takeDraft_29 rfl rfl ?_
  refine pa_getR (pc' := 33) (n := 16) (r := 94) dX11_takeDraft_30 fl_11_60 s0 (by decide) ((zsR_no (by omega)).trans ((zsR_no (by omega)).trans ((zsR_no (by omega)).trans r8))) rfl ?_
  refine pa_aload_n (pc' := 34) dX11_takeDraft_33 rfl rfl ?_
  refine pa_getR (pc' := 37) (n := 16) (r := c) dX11_takeDraft_34 fl_11_23 s0 (by decide) ((zsR_no (by omega)).trans ((zsR_no (by omega)).trans zsR_eq)) rfl ?_
  refine pa_putR (pc' := 40) (n := 7) dX11_takeDraft_37 fl_11_389 s94 (Or.inl rfl) rfl rfl ?_
  refine pa_aload_n (pc' := 41) dX11_takeDraft_40 rfl rfl ?_
  refine pa_getR (pc' := 44) (n := 16) (r := 96) dX11_takeDraft_41 fl_11_67 s0 (by decide) ((zsR_no (by omega)).trans ((zsR_no (by omega)).trans ((zsR_no (by omega)).trans ((zsR_no (by omega)).trans r9)))) rfl ?_
  refine pa_aload_n (pc' := 45) dX11_takeDraft_44 rfl rfl ?_
  refine pa_getR (pc' := 48) (n := 16) (r := c) dX11_takeDraft_45 fl_11_23 s0 (by decide) ((zsR_no (by omega)).trans ((zsR_no (by omega)).trans ((zsR_no (by omega)).trans zsR_eq))) rfl ?_
  refine pa_putR (pc' := 51) (n := 4) dX11_takeDraft_48 fl_11_390 s96 (Or.inl rfl) rfl rfl ?_
  generalize eg : zsR (zsR (zsR (zsR (zsR h 0 3 (some c)) 0 4 (some e)) 92 0 (some c)) 94 0 (some c)) 96 0 (some c) = g1
  have er : ∀ a k, a ≠ 0 → a ≠ 92 → a ≠ 94 → a ≠ 96 → g1.2.2.2.1 a k = h.2.2.2.1 a k := fun a k w1 w2 w3 w4 => by rw [← eg, zsR_no (by omega), zsR_no (by omega), zsR_no (by omega), zsR_no (by omega), zsR_no (by omega)]
  have eI : g1.2.1 = h.2.1 := by rw [← eg]; rfl
  have e1 : g1.1 = hh_487.1 := by rw [← eg]; exact S.1
  have K1 : rcC A c g1 := by
    unfold rcC rX at K ⊢
    rw [eI]
    exact K
  have o1 : nwO 86 g1 := by
    obtain ⟨⟨a0, a1, a2, a3, a4, a5⟩, q1, q2, q3, q4, q5⟩ := S.o86
    refine ⟨⟨zsh_by e1 (by decide +kernel), zsh_by e1 (by decide +kernel), zsh_by e1 (by decide +kernel), zsh_by e1 (by decide +kernel), zsh_by e1 (by decide +kernel), zsh_by e1 (by decide +kernel)⟩, ?_, ?_, ?_, ?_, ?_⟩ <;> rw [er _ _ (by decide) (by decide) (by decide) (by decide)] <;> assumption
  have R1 : cRf c g1 := by
    obtain ⟨q1, q2, q3, q4, q5⟩ := R
    exact ⟨(er _ _ (by omega) (by omega) (by omega) (by omega)).trans q1, (er _ _ (by omega) (by omega) (by omega) (by omega)).trans q2, (er _ _ (by omega) (by omega) (by omega) (by omega)).trans q3, fun w hw => (er _ _ (by omega) (by omega) (by omega) (by omega)).trans (q4 w hw), fun b hb => (er _ _ (by omega) (by omega) (by omega) (by omega)).trans (q5 b hb)⟩
  have t0 : zsh g1 0 = some (11, 16) := zsh_by e1 (by decide +kernel)
  have t6 : g1.2.2.2.1 0 6 = some 86 := by rw [← eg, zsR_no (by omega), zsR_no (by omega), zsR_no (by omega), zsR_no (by omega), zsR_no (by omega)]; exact r6
  have t3 : g1.2.2.2.1 0 3 = some c := by rw [← eg, zsR_no (by omega), zsR_no (by omega), zsR_no (by omega), zsR_no (by omega), zsR_eq]
  refine pa_aload_n (pc' := 52) dX11_takeDraft_51 rfl rfl ?_
  refine pa_getR (pc' := 55) (n := 16) (r := 86) dX11_takeDraft_52 fl_11_42 t0 (by decide) t6 rfl ?_
  refine pa_aload_n (pc' := 56) dX11_takeDraft_55 rfl rfl ?_
  refine pa_getR (pc' := 59) (n := 16) (r := c) dX11_takeDraft_56 fl_11_23 t0 (by decide) t3 rfl ?_
  refine pa_callv (pc' := 62) (vs := [.inr (.inr (some c))]) (rest := []) dX11_takeDraft_59 ml_11_391 (by decide) rfl rfl rfl (fun d' _ => (N_begin hc e1 hI hT hB K1 o1 R1)) (fun v g hq => ?_)
  obtain ⟨ev, eh⟩ := hq
  subst ev
  show zPn N none d mX11_takeDraft (62, _, [], g) _
  obtain ⟨F, n⟩ := eh
  have u0 : zsh g 0 = some (11, 16) := zsh_by (F.1.trans e1) (by decide +kernel)
  refine pa_aload_n (pc' := 63) dX11_takeDraft_62 rfl rfl ?_
  refine pa_iconst (v := nI 0) (pc' := 64) dX11_takeDraft_63 (by decide) rfl ?_
  refine pa_putI (pc' := 67) (n := 16) dX11_takeDraft_64 fl_11_85 u0 (Or.inl rfl) (Or.inl rfl) rfl ?_
  refine pa_aload_n (pc' := 68) dX11_takeDraft_67 rfl rfl ?_
  refine pa_iconst (v := nI 0) (pc' := 69) dX11_takeDraft_68 (by decide) rfl ?_
  refine pa_putI (pc' := 72) (n := 16) dX11_takeDraft_69 fl_11_91 u0 (Or.inl rfl) (Or.inl rfl) rfl ?_
  refine pa_vret dX11_takeDraft_72 rfl ?_
  have at' : ∀ a k, (zsI (zsI g 0 13 (nI 0)) 0 15 (nI 0)).2.1 a k = if a = 0 ∧ k = 15 then nI 0 else if a = 0 ∧ k = 13 then nI 0 else g.2.1 a k := fun a k => by rw [zsI_at, zsI_at]
  exact ⟨rfl, by rw [at', if_neg (by omega), if_pos ⟨rfl, rfl⟩]; rfl, n.fr (fun b k w1 w2 => by rw [at', if_neg (by omega), if_neg (by omega)])⟩
end TKD
/-! post: what it leaves of the state, in the class -/
section PNW
variable {d N n s c e : Nat} {h g : zH} {A : pA} {x : Int32}
theorem nwS_of (ho : hOK wd h) (h1 : h.1 = hh_487.1) : nwS h := by
  have r := ho.2.2.1
  have k1 : ∀ k, k < 12 → wd.2.2.1 104 k = some (106 + 6 * k) ∧ wd.2.2.1 (106 + 6 * k) 2 = some (106 + 6 * k + 1) ∧ wd.2.2.1 (106 + 6 * k) 3 = some (106 + 6 * k + 2) ∧ wd.2.2.1 (106 + 6 * k) 4 = some (106 + 6 * k + 3) ∧ wd.2.2.1 (106 + 6 * k) 5 = some (106 + 6 * k + 4) ∧ wd.2.2.1 (106 + 6 * k) 6 = some (106 + 6 * k + 5) := by decide +kernel
  have k2 : ∀ k, k < 3 → wd.2.2.1 105 k = some (178 + 6 * k) ∧ wd.2.2.1 (178 + 6 * k) 2 = some (178 + 6 * k + 1) ∧ wd.2.2.1 (178 + 6 * k) 3 = some (178 + 6 * k + 2) ∧ wd.2.2.1 (178 + 6 * k) 4 = some (178 + 6 * k + 3) ∧ wd.2.2.1 (178 + 6 * k) 5 = some (178 + 6 * k + 4) ∧ wd.2.2.1 (178 + 6 * k) 6 = some (178 + 6 * k + 5) := by decide +kernel
  refine ⟨h1, r 0 6 86 (by decide +kernel), r 0 11 104 (by decide +kernel), r 0 14 105 (by decide +kernel), fun k hk => r _ _ _ (k1 k hk).1, fun k hk => r _ _ _ (k2 k hk).1, ⟨r 86 2 87 (by decide +kernel), r 86 3 88 (by decide +kernel), r 86 4 89 (by decide +kernel), r 86 5 90 (by decide +kernel), r 86 6 91 (by decide +kernel)⟩, fun k hk => ?_, fun k hk => ?_⟩
  · obtain ⟨-, a1, a2, a3, a4, a5⟩ := k1 k hk
    exact ⟨r _ _ _ a1, r _ _ _ a2, r _ _ _ a3, r _ _ _ a4, r _ _ _ a5⟩
  · obtain ⟨-, a1, a2, a3, a4, a5⟩ := k2 k hk
    exact ⟨r _ _ _ a1, r _ _ _ a2, r _ _ _ a3, r _ _ _ a4, r _ _ _ a5⟩
theorem mwS_of (ho : hOK wd h) (h1 : h.1 = hh_487.1) : mwS h := ⟨h1, ho.2.2.1 196 17 201 (by decide +kernel), ho.2.2.1 196 18 202 (by decide +kernel), ho.2.2.1 196 19 203 (by decide +kernel)⟩
theorem cRf_of (ho : hOK wd h) (hc : cc2 c) : cRf c h := by
  have r := ho.2.2.1
  have k1 : ∀ w, w < 5 → wd.2.2.1 (2 + 4) w = some (2 + 19 + w) ∧ wd.2.2.1 (42 + 4) w = some (42 + 19 + w) := by decide +kernel
  have k2 : ∀ w, w < 8 → wd.2.2.1 (2 + 5) w = some (2 + 24 + w) ∧ wd.2.2.1 (42 + 5) w = some (42 + 24 + w) := by decide +kernel
  have hc : c = 2 ∨ c = 42 := hc
  rcases hc with z | z <;> subst z
  · exact ⟨r _ _ _ (by decide +kernel), r _ _ _ (by decide +kernel), r _ _ _ (by decide +kernel), fun w hw => r _ _ _ (k1 w hw).1, fun b hb => r _ _ _ (k2 b hb).1⟩
  · exact ⟨r _ _ _ (by decide +kernel), r _ _ _ (by decide +kernel), r _ _ _ (by decide +kernel), fun w hw => r _ _ _ (k1 w hw).2, fun b hb => r _ _ _ (k2 b hb).2⟩
def pcN (h : zH) (r : sF ⊕ pA) (h' : zH) : Prop := match r with
  | .inl _ => (∀ a k, 86 ≤ a → h'.2.1 a k = h.2.1 a k) ∧ h'.2.1 0 12 = h.2.1 0 12 ∧ h'.2.1 0 13 = h.2.1 0 13
  | .inr A => nC A (nS0 A) 86 h' ∧ h'.2.1 0 13 = 0
theorem N_post11n_0 (ho : hOK wd h) (e1 : h.1 = hh_487.1) (hr : lV h rv0) (ht : h.2.1 0 1 = nI s) (hs : s ≤ 1000) (hn : n ≤ s) (hd : 6 ≤ d + 1) : zPa (d + 1) mX11_post [.inr (.inr (some 0)), .inl (nI n)] h (fun _ h' => pcN h (sText (h.2.1 1) n (n + 1) pA0 0) h') := by
  intro N
  have s0 : zsh h 0 = some (11, 16) := ho.1 0 (11, 16) (by decide +kernel)
  have k0 : (0 : Int32).toInt = 0 := by decide
  show zPn N none (d + 1) mX11_post (0, [(0, .inr (.inr (some 0))), (1, .inl (nI n))], [], h) _
  refine pa_iload_n (pc' := 1) dX11_post_0 rfl rfl ?_
  refine pa_if (pc' := 12) (pc2 := 4) dX11_post_1 (by decide) rfl (fun c => ?_) (fun c => ?_)
  · have := zi_lt c
    rw [nI_toInt (by omega), k0] at this
    omega
  refine pa_iload_n (pc' := 5) dX11_post_4 rfl rfl ?_
  refine pa_aload_n (pc' := 6) dX11_post_5 rfl rfl ?_
  refine pa_getI (pc' := 9) (n := 16) (v := nI s) dX11_post_6 fl_11_13 s0 (by decide) ht rfl ?_
  refine pa_icmp (pc' := 18) (pc2 := 12) dX11_post_9 (by decide) rfl (fun c2 => ?_) (fun c2 => ?_)
  rotate_left
  · have := zi_gt (zk_le_gt c2)
    rw [nI_toInt (by omega), nI_toInt (by omega)] at this
    omega
  refine pa_aload_n (pc' := 19) dX11_post_18 rfl rfl ?_
  refine pa_iconst (v := 0) (pc' := 20) dX11_post_19 (by decide) rfl ?_
  refine pa_putI (pc' := 23) (n := 16) dX11_post_20 fl_11_13 s0 (Or.inl rfl) (Or.inl rfl) rfl ?_
  have ho2 : hOK wd (zsI h 0 1 0) := hOK_set (aLe_in (A := [(0, 0, 1)]) (by decide +kernel) (aR1_in (lo := 0) (hi := 0) (by decide) (by decide))) (by decide +kernel) ho
  have r5 : (zsI h 0 1 0).2.2.2.1 0 5 = some 82 := ho2.2.2.1 0 5 82 (by decide +kernel)
  have r4 : (zsI h 0 1 0).2.2.2.1 0 4 = some 42 := hr ((0, 4), 42) (by decide)
  have hy : (zsI h 0 1 0).2.1 1 = h.2.1 1 := funext (fun k => zsI_no (by omega))
  refine pa_aload_n (pc' := 24) dX11_post_23 rfl rfl ?_
  refine pa_getR (pc' := 27) (n := 16) (r := 82) dX11_post_24 fl_11_35 s0 (by decide) r5 rfl ?_
  refine pa_iload_n (pc' := 28) dX11_post_27 rfl rfl ?_
  refine pa_aload_n (pc' := 29) dX11_post_28 rfl rfl ?_
  refine pa_getR (pc' := 32) (n := 16) (r := 42) dX11_post_29 fl_11_27 s0 (by decide) r4 rfl ?_
  refine pa_callv (pc' := 35) (vs := [.inl (nI n), .inr (.inr (some 42))]) (rest := []) dX11_post_32 ml_11_102 (by decide) rfl rfl rfl (fun d' hd' => zPa.two (zPa.of (S_54 d' (by show 5 ≤ d'; omega) [.inr (.inr (some 82)), .inl (nI n), .inr (.inr (some 42))] (zsI h 0 1 0) ⟨⟨82, List.mem_cons_self, rfl⟩, ⟨_, rfl, aR1_in (lo := 0) (hi := 1000) (by rw [nI_toInt (by omega)]; omega) (by rw [nI_toInt (by omega)]; omega)⟩, ⟨42, List.mem_cons_self, rfl⟩, trivial⟩ ho2 ⟨fun q hq => (nomatch hq), fun q hq => (nomatch hq)⟩)) (by
    obtain ⟨e, rfl⟩ : ∃ e, d' = e + 1 := ⟨d' - 1, by omega⟩
    exact C_text (y := h.2.1 1) (c := 42) (by unfold cc2; decide) e1 ho2.2.2.1 hy (by omega))) (fun v g hq => ?_)
  obtain ⟨⟨ho3, hf3, p3, hp3, hret3, -, hpre3, -⟩, hq⟩ := hq
  have s0g : zsh g 0 = some (11, 16) := ho3.1 0 (11, 16) (by decide +kernel)
  have hrg : lV g rv0 := fun q hq => (hf3.2.2.2.1 q.1.1 q.1.2 (by
    have : ∀ q ∈ rv0, inM [(82, 6, 7)] q.1.1 q.1.2 = false := by decide
    exact this q hq)).trans (hr q hq)
  cases er : sText (h.2.1 1) n (n + 1) pA0 0 with
  | inl e =>
    rw [er] at hq
    obtain ⟨ev, hf⟩ := hq
    subst ev
    show zPn N none (d + 1) mX11_post (35, [(0, .inr (.inr (some 0))), (1, .inl (nI n))], [.inl 0], g) _
    refine pa_if_f (x := 0) (pc' := 38) dX11_post_35 (by decide) (by decide) rfl ?_
    refine pa_aload_n (pc' := 39) dX11_post_38 rfl rfl ?_
    refine pa_iconst (v := 4) (pc' := 40) dX11_post_39 (by decide) rfl ?_
    refine pa_callv (pc' := 43) (vs := [.inl 4]) (rest := []) dX11_post_40 ml_11_98 (by decide) rfl rfl rfl (fun d' _ => c_ref s0g) (fun v g2 hq => ?_)
    obtain ⟨ev, eg⟩ := hq
    subst ev; subst eg
    exact pa_iret dX11_post_43 rfl rfl ⟨fun a k ha => ((zsI_no (by omega)).trans (hf3.2.2.1 a k (inM_by (fun x => Nat.ble x 85) (by decide +kernel) (ble_f (by omega))))).trans (zsI_no (by omega)), ((zsI_no (by omega)).trans (hf3.2.2.1 0 12 (by decide))).trans (zsI_no (by omega)), ((zsI_no (by omega)).trans (hf3.2.2.1 0 13 (by decide))).trans (zsI_no (by omega))⟩
  | inr A =>
    rw [er] at hq
    obtain ⟨ev, hC, hI⟩ := hq
    subst ev
    have hT := sText_tA _ _ _ pI_0 tA_0 (Nat.zero_le _) er
    have hB := sText_tB _ _ _ pI_0 tB_0 (Nat.zero_le _) er
    show zPn N none (d + 1) mX11_post (35, [(0, .inr (.inr (some 0))), (1, .inl (nI n))], [.inl 1], g) _
    refine pa_if_t (x := 1) (pc' := 44) dX11_post_35 (by decide) (by decide) ?_
    refine pa_aload_n (pc' := 45) dX11_post_44 rfl rfl ?_
    refine pa_callv (pc' := 48) (vs := []) (rest := []) dX11_post_45 ml_11_106 (by decide) rfl rfl rfl (fun d' hd' => zPa.two (zPa.of (S_56 d' (by show 1 ≤ d'; omega) [.inr (.inr (some 0))] g ⟨⟨0, List.mem_cons_self, rfl⟩, trivial⟩ ho3 ⟨fun q hq => (nomatch hq), hrg⟩)) (N_take (c := 42) (e := 2) (by unfold cc2; decide) (nwS_of ho3 (hf3.1.trans e1)) hI hT hB hC (cRf_of ho3 (by unfold cc2; decide)) (hrg ((0, 3), 2) (by decide)) (hrg ((0, 4), 42) (by decide)) (ho3.2.2.1 0 7 92 (by decide +kernel)) (ho3.2.2.1 0 8 94 (by decide +kernel)) (ho3.2.2.1 0 9 96 (by decide +kernel)))) (fun v g2 hq => ?_)
    obtain ⟨⟨ho4, hf4, p, hp, hret, -, hpre, hpr⟩, -, z13, nw⟩ := hq
    have hall : ct_56.2.2.2.1.all (fun p => decide (p.1 = none) && p.2.2.2.any (fun q => decide (q = ((0, 3), 42)))) = true := by decide +kernel
    have hb := List.all_eq_true.mp hall p hp
    rw [Bool.and_eq_true] at hb
    have ev : v = none := by
      rw [of_decide_eq_true hb.1] at hret
      exact hret
    subst ev
    have s0h : zsh g2 0 = some (11, 16) := ho4.1 0 (11, 16) (by decide +kernel)
    have sch : zsh g2 42 = some (4, 15) := ho4.1 42 (4, 15) (by decide +kernel)
    have r3 : g2.2.2.2.1 0 3 = some 42 := by
      obtain ⟨q, hq, e⟩ := List.any_eq_true.mp hb.2
      have e := of_decide_eq_true e
      subst e
      exact hpr _ hq
    show zPn N none (d + 1) mX11_post (48, [(0, .inr (.inr (some 0))), (1, .inl (nI n))], [], g2) _
    refine pa_aload_n (pc' := 49) dX11_post_48 rfl rfl ?_
    refine pa_aload_n (pc' := 50) dX11_post_49 rfl rfl ?_
    refine pa_getR (pc' := 53) (n := 16) (r := 42) dX11_post_50 fl_11_23 s0h (by decide) r3 rfl ?_
    refine pa_getI (pc' := 56) (n := 15) dX11_post_53 fl_11_109 sch (by decide) rfl rfl ?_
    refine pa_callv (pc' := 59) (vs := [.inl (g2.2.1 42 4)]) (rest := []) dX11_post_56 ml_11_112 (by decide) rfl rfl rfl (fun d' _ => c_gra s0h) (fun v g3 hq => ?_)
    obtain ⟨ev, eg⟩ := hq
    subst ev; subst eg
    exact pa_iret dX11_post_59 rfl rfl ⟨nw.fr (fun b k w1 w2 => zsI_no (by omega)), (zsI_no (by omega)).trans z13⟩
theorem N_post11n_1 (ho : hOK wd h) (e1 : h.1 = hh_487.1) (hr : lV h rv1) (ht : h.2.1 0 1 = nI s) (hs : s ≤ 1000) (hn : n ≤ s) (hd : 6 ≤ d + 1) : zPa (d + 1) mX11_post [.inr (.inr (some 0)), .inl (nI n)] h (fun _ h' => pcN h (sText (h.2.1 1) n (n + 1) pA0 0) h') := by
  intro N
  have s0 : zsh h 0 = some (11, 16) := ho.1 0 (11, 16) (by decide +kernel)
  have k0 : (0 : Int32).toInt = 0 := by decide
  show zPn N none (d + 1) mX11_post (0, [(0, .inr (.inr (some 0))), (1, .inl (nI n))], [], h) _
  refine pa_iload_n (pc' := 1) dX11_post_0 rfl rfl ?_
  refine pa_if (pc' := 12) (pc2 := 4) dX11_post_1 (by decide) rfl (fun c => ?_) (fun c => ?_)
  · have := zi_lt c
    rw [nI_toInt (by omega), k0] at this
    omega
  refine pa_iload_n (pc' := 5) dX11_post_4 rfl rfl ?_
  refine pa_aload_n (pc' := 6) dX11_post_5 rfl rfl ?_
  refine pa_getI (pc' := 9) (n := 16) (v := nI s) dX11_post_6 fl_11_13 s0 (by decide) ht rfl ?_
  refine pa_icmp (pc' := 18) (pc2 := 12) dX11_post_9 (by decide) rfl (fun c2 => ?_) (fun c2 => ?_)
  rotate_left
  · have := zi_gt (zk_le_gt c2)
    rw [nI_toInt (by omega), nI_toInt (by omega)] at this
    omega
  refine pa_aload_n (pc' := 19) dX11_post_18 rfl rfl ?_
  refine pa_iconst (v := 0) (pc' := 20) dX11_post_19 (by decide) rfl ?_
  refine pa_putI (pc' := 23) (n := 16) dX11_post_20 fl_11_13 s0 (Or.inl rfl) (Or.inl rfl) rfl ?_
  have ho2 : hOK wd (zsI h 0 1 0) := hOK_set (aLe_in (A := [(0, 0, 1)]) (by decide +kernel) (aR1_in (lo := 0) (hi := 0) (by decide) (by decide))) (by decide +kernel) ho
  have r5 : (zsI h 0 1 0).2.2.2.1 0 5 = some 82 := ho2.2.2.1 0 5 82 (by decide +kernel)
  have r4 : (zsI h 0 1 0).2.2.2.1 0 4 = some 2 := hr ((0, 4), 2) (by decide)
  have hy : (zsI h 0 1 0).2.1 1 = h.2.1 1 := funext (fun k => zsI_no (by omega))
  refine pa_aload_n (pc' := 24) dX11_post_23 rfl rfl ?_
  refine pa_getR (pc' := 27) (n := 16) (r := 82) dX11_post_24 fl_11_35 s0 (by decide) r5 rfl ?_
  refine pa_iload_n (pc' := 28) dX11_post_27 rfl rfl ?_
  refine pa_aload_n (pc' := 29) dX11_post_28 rfl rfl ?_
  refine pa_getR (pc' := 32) (n := 16) (r := 2) dX11_post_29 fl_11_27 s0 (by decide) r4 rfl ?_
  refine pa_callv (pc' := 35) (vs := [.inl (nI n), .inr (.inr (some 2))]) (rest := []) dX11_post_32 ml_11_102 (by decide) rfl rfl rfl (fun d' hd' => zPa.two (zPa.of (S_306 d' (by show 5 ≤ d'; omega) [.inr (.inr (some 82)), .inl (nI n), .inr (.inr (some 2))] (zsI h 0 1 0) ⟨⟨82, List.mem_cons_self, rfl⟩, ⟨_, rfl, aR1_in (lo := 0) (hi := 1000) (by rw [nI_toInt (by omega)]; omega) (by rw [nI_toInt (by omega)]; omega)⟩, ⟨2, List.mem_cons_self, rfl⟩, trivial⟩ ho2 ⟨fun q hq => (nomatch hq), fun q hq => (nomatch hq)⟩)) (by
    obtain ⟨e, rfl⟩ : ∃ e, d' = e + 1 := ⟨d' - 1, by omega⟩
    exact C_text (y := h.2.1 1) (c := 2) (by unfold cc2; decide) e1 ho2.2.2.1 hy (by omega))) (fun v g hq => ?_)
  obtain ⟨⟨ho3, hf3, p3, hp3, hret3, -, hpre3, -⟩, hq⟩ := hq
  have s0g : zsh g 0 = some (11, 16) := ho3.1 0 (11, 16) (by decide +kernel)
  have hrg : lV g rv1 := fun q hq => (hf3.2.2.2.1 q.1.1 q.1.2 (by
    have : ∀ q ∈ rv1, inM [(82, 6, 7)] q.1.1 q.1.2 = false := by decide
    exact this q hq)).trans (hr q hq)
  cases er : sText (h.2.1 1) n (n + 1) pA0 0 with
  | inl e =>
    rw [er] at hq
    obtain ⟨ev, hf⟩ := hq
    subst ev
    show zPn N none (d + 1) mX11_post (35, [(0, .inr (.inr (some 0))), (1, .inl (nI n))], [.inl 0], g) _
    refine pa_if_f (x := 0) (pc' := 38) dX11_post_35 (by decide) (by decide) rfl ?_
    refine pa_aload_n (pc' := 39) dX11_post_38 rfl rfl ?_
    refine pa_iconst (v := 4) (pc' := 40) dX11_post_39 (by decide) rfl ?_
    refine pa_callv (pc' := 43) (vs := [.inl 4]) (rest := []) dX11_post_40 ml_11_98 (by decide) rfl rfl rfl (fun d' _ => c_ref s0g) (fun v g2 hq => ?_)
    obtain ⟨ev, eg⟩ := hq
    subst ev; subst eg
    exact pa_iret dX11_post_43 rfl rfl ⟨fun a k ha => ((zsI_no (by omega)).trans (hf3.2.2.1 a k (inM_by (fun x => Nat.ble x 85) (by decide +kernel) (ble_f (by omega))))).trans (zsI_no (by omega)), ((zsI_no (by omega)).trans (hf3.2.2.1 0 12 (by decide))).trans (zsI_no (by omega)), ((zsI_no (by omega)).trans (hf3.2.2.1 0 13 (by decide))).trans (zsI_no (by omega))⟩
  | inr A =>
    rw [er] at hq
    obtain ⟨ev, hC, hI⟩ := hq
    subst ev
    have hT := sText_tA _ _ _ pI_0 tA_0 (Nat.zero_le _) er
    have hB := sText_tB _ _ _ pI_0 tB_0 (Nat.zero_le _) er
    show zPn N none (d + 1) mX11_post (35, [(0, .inr (.inr (some 0))), (1, .inl (nI n))], [.inl 1], g) _
    refine pa_if_t (x := 1) (pc' := 44) dX11_post_35 (by decide) (by decide) ?_
    refine pa_aload_n (pc' := 45) dX11_post_44 rfl rfl ?_
    refine pa_callv (pc' := 48) (vs := []) (rest := []) dX11_post_45 ml_11_106 (by decide) rfl rfl rfl (fun d' hd' => zPa.two (zPa.of (S_308 d' (by show 1 ≤ d'; omega) [.inr (.inr (some 0))] g ⟨⟨0, List.mem_cons_self, rfl⟩, trivial⟩ ho3 ⟨fun q hq => (nomatch hq), hrg⟩)) (N_take (c := 2) (e := 42) (by unfold cc2; decide) (nwS_of ho3 (hf3.1.trans e1)) hI hT hB hC (cRf_of ho3 (by unfold cc2; decide)) (hrg ((0, 3), 42) (by decide)) (hrg ((0, 4), 2) (by decide)) (ho3.2.2.1 0 7 92 (by decide +kernel)) (ho3.2.2.1 0 8 94 (by decide +kernel)) (ho3.2.2.1 0 9 96 (by decide +kernel)))) (fun v g2 hq => ?_)
    obtain ⟨⟨ho4, hf4, p, hp, hret, -, hpre, hpr⟩, -, z13, nw⟩ := hq
    have hall : ct_308.2.2.2.1.all (fun p => decide (p.1 = none) && p.2.2.2.any (fun q => decide (q = ((0, 3), 2)))) = true := by decide +kernel
    have hb := List.all_eq_true.mp hall p hp
    rw [Bool.and_eq_true] at hb
    have ev : v = none := by
      rw [of_decide_eq_true hb.1] at hret
      exact hret
    subst ev
    have s0h : zsh g2 0 = some (11, 16) := ho4.1 0 (11, 16) (by decide +kernel)
    have sch : zsh g2 2 = some (4, 15) := ho4.1 2 (4, 15) (by decide +kernel)
    have r3 : g2.2.2.2.1 0 3 = some 2 := by
      obtain ⟨q, hq, e⟩ := List.any_eq_true.mp hb.2
      have e := of_decide_eq_true e
      subst e
      exact hpr _ hq
    show zPn N none (d + 1) mX11_post (48, [(0, .inr (.inr (some 0))), (1, .inl (nI n))], [], g2) _
    refine pa_aload_n (pc' := 49) dX11_post_48 rfl rfl ?_
    refine pa_aload_n (pc' := 50) dX11_post_49 rfl rfl ?_
    refine pa_getR (pc' := 53) (n := 16) (r := 2) dX11_post_50 fl_11_23 s0h (by decide) r3 rfl ?_
    refine pa_getI (pc' := 56) (n := 15) dX11_post_53 fl_11_109 sch (by decide) rfl rfl ?_
    refine pa_callv (pc' := 59) (vs := [.inl (g2.2.1 2 4)]) (rest := []) dX11_post_56 ml_11_112 (by decide) rfl rfl rfl (fun d' _ => c_gra s0h) (fun v g3 hq => ?_)
    obtain ⟨ev, eg⟩ := hq
    subst ev; subst eg
    exact pa_iret dX11_post_59 rfl rfl ⟨nw.fr (fun b k w1 w2 => zsI_no (by omega)), (zsI_no (by omega)).trans z13⟩
end PNW
/-! post: what it leaves of the state, in the reference -/
theorem zPn.all {N : Nat} {scr : Option (Nat × (Nat → Int32))} {d : Nat} {m : zM} {g : zC} {Q : Option zV → zH → Prop} (k : ∀ v h', Q v h') : zPn N scr d m g Q := fun _ _ v h' _ => k v h'
theorem nt_sub {b : Int32} (h1 : 97 ≤ b.toInt) (h2 : b.toInt < 101) : b - 97 = nI (dg b) := by
  refine Int32.toInt_inj.mp ?_
  unfold dg
  rw [Int32.toInt_sub, show (97 : Int32).toInt = 97 by decide, nI_toInt (by omega), bmod_fit (by omega) (by omega)]
  omega
/-- the songs of a post are of its notes -/
theorem okN_of {A : pA} {i : Nat} (hI : pI A) (hi : i < cI A) : okN (ntA A) (A.2.2.1 i) ∧ (A.2.2.1 i).length ≤ 6 ∧ 2 ≤ (A.2.2.1 i).length ∧ 2 ≤ ntA A ∧ ntA A ≤ 4 ∧ A.1 = nI (ntA A) := by
  obtain ⟨o1, o2⟩ := hI.2.2.2.2.2.1 i hi
  have hn : A.1.toInt = ntA A ∧ 2 ≤ ntA A ∧ ntA A ≤ 4 ∧ A.1 = nI (ntA A) := by
    unfold ntA
    rcases hI.1 with e | e | e | e
    · have := (hI.2.1 e).1
      omega
    · rw [e]; decide
    · rw [e]; decide
    · rw [e]; decide
  unfold okSong at o1
  rw [Bool.and_eq_true, Bool.and_eq_true] at o1
  obtain ⟨p1, p2, p3⟩ := o1
  refine ⟨fun b hb => ?_, of_decide_eq_true p2, of_decide_eq_true p1, hn.2⟩
  have q1 := of_decide_eq_true (List.all_eq_true.mp p3 b hb)
  have q2 := List.all_eq_true.mp o2 b hb
  unfold isLt at q2
  rw [Bool.and_eq_true] at q2
  have q3 := Int32.le_iff_toInt_le.mp (of_decide_eq_true q2.1)
  have q4 := Int32.le_iff_toInt_le.mp (of_decide_eq_true q2.2)
  rw [show (97 : Int32).toInt = 97 by decide] at q3
  rw [show (122 : Int32).toInt = 122 by decide] at q4
  have q1 := lt_i.mp q1
  rw [Int32.toInt_sub, show (97 : Int32).toInt = 97 by decide, bmod_fit (by omega) (by omega)] at q1
  omega
/-- what the tail reads -/
def tK2 (H B : Nat) (hm to : Nat → Nat) (sg : Nat → List Int32) (h : zH) : Prop := h.1 = hh_487.1 ∧ (h.2.2.2.1 196 15 = some 199 ∧ h.2.2.2.1 196 17 = some 201) ∧ (H ≤ 5 ∧ B ≤ 8) ∧ (h.2.1 199 6 = nI H ∧ h.2.1 199 7 = nI B) ∧ (∀ w, w < H → h.2.1 199 (107 + 4 * w + 1) = nI (hm w)) ∧ ∀ b, b < B → h.2.1 199 (127 + 4 * b + 1) = nI (to b) ∧ to b < 7 ∧ (sg b).length ≤ 6 ∧ ∀ j, j < (sg b).length → h.2.1 199 (10 + 7 * to b + 1 + j) = nI (dg ((sg b).getD j 0))
def tS2 (hm : Nat → Nat) (sg : Nat → List Int32) (m k : Nat) (h : zH) : Prop := h.2.1 201 0 = 0 ∧ h.2.1 201 1 = 0 ∧ (∀ w, w < 5 → h.2.1 201 (7 + w) = 0) ∧ (∀ w, w < m → h.2.1 201 (2 + w) = nI (hm w)) ∧ (∀ b, b < 8 → h.2.1 201 (12 + b) = 0 ∧ h.2.1 201 (20 + b) = 0) ∧ ∀ b, b < k → ∀ j, j < (sg b).length → h.2.1 201 (28 + 6 * b + j) = nI (dg ((sg b).getD j 0))
section TL2
variable {d N n p H B : Nat} {h g : zH} {hm to : Nat → Nat} {sg : Nat → List Int32}
theorem tK2.bt (T : tK2 H B hm to sg h) (k : hBut 201 h g) : tK2 H B hm to sg g := by
  obtain ⟨t1, t2, t3, ⟨t4, t5⟩, t6, t7⟩ := T
  have e : ∀ j, g.2.1 199 j = h.2.1 199 j := fun j => k.2.2 199 j (by decide)
  refine ⟨k.1.trans t1, by rw [k.2.1]; exact t2, t3, ⟨(e _).trans t4, (e _).trans t5⟩, fun w hw => (e _).trans (t6 w hw), fun b hb => ?_⟩
  obtain ⟨a1, a2, a3, a4⟩ := t7 b hb
  exact ⟨(e _).trans a1, a2, a3, fun j hj => (e _).trans (a4 j hj)⟩
theorem T2_313 {ls : zL} (T : tK2 H B hm to sg h) (s : tS2 hm sg H B h) (hl0 : zget ls 0 = some (.inr (.inr (some 196)))) : zPn N none d mX12_post (313, ls, [], h) (fun _ h' => tS2 hm sg H B h' ∧ h'.2.1 196 20 = 0) := by
  have s196 : zsh h 196 = some (12, 39) := zsh_by T.1 (by decide +kernel)
  have s199 : zsh h 199 = some (14, 363) := zsh_by T.1 (by decide +kernel)
  have r15 := T.2.1.1
  refine pa_aload_n (pc' := 314) dX12_post_313 hl0 rfl ?_
  refine pa_iconst (v := 1) (pc' := 315) dX12_post_314 (by decide) rfl ?_
  refine pa_putI (pc' := 318) (n := 39) dX12_post_315 fl_12_180 s196 (Or.inl rfl) (Or.inr ⟨rfl, by decide⟩) rfl ?_
  refine pa_aload_n (pc' := 319) dX12_post_318 hl0 rfl ?_
  refine pa_iconst (v := nI 0) (pc' := 320) dX12_post_319 (by decide) rfl ?_
  refine pa_putI (pc' := 323) (n := 39) dX12_post_320 fl_12_183 s196 (Or.inl rfl) (Or.inl rfl) rfl ?_
  refine pa_aload_n (pc' := 324) dX12_post_323 hl0 rfl ?_
  refine pa_iconst (v := nI 0) (pc' := 325) dX12_post_324 (by decide) rfl ?_
  refine pa_putI (pc' := 328) (n := 39) dX12_post_325 fl_12_186 s196 (Or.inl rfl) (Or.inl rfl) rfl ?_
  refine pa_aload_n (pc' := 329) dX12_post_328 hl0 rfl ?_
  refine pa_getR (pc' := 332) (n := 39) (r := 199) dX12_post_329 fl_12_20 s196 (by decide) r15 rfl ?_
  refine pa_iconst (v := nI 4) (pc' := 333) dX12_post_332 (by decide) rfl ?_
  refine pa_iald (pc' := 334) dX12_post_333 s199 rfl (fun _ => ?_)
  rw [nI_clamp (by omega)]
  refine pa_iret dX12_post_334 rfl rfl ?_
  have e : ∀ j, (zsI (zsI (zsI h 196 14 1) 196 20 (nI 0)) 196 21 (nI 0)).2.1 201 j = h.2.1 201 j := fun j => by rw [zsI_no (by omega), zsI_no (by omega), zsI_no (by omega)]
  obtain ⟨s1, s2, s3, s4, s5, s6⟩ := s
  exact ⟨⟨(e _).trans s1, (e _).trans s2, fun w hw => (e _).trans (s3 w hw), fun w hw => (e _).trans (s4 w hw), fun b hb => ⟨(e _).trans (s5 b hb).1, (e _).trans (s5 b hb).2⟩, fun b hb j hj => (e _).trans (s6 b hb j hj)⟩, by rw [zsI_no (by omega), zsI_eq]; rfl⟩
theorem T2_255 : ∀ (N k : Nat) (h : zH) (ls : zL), k ≤ B → tK2 H B hm to sg h → tS2 hm sg H k h → zget ls 0 = some (.inr (.inr (some 196))) → zget ls 2 = some (.inl (nI k)) → zPn N none d mX12_post (255, ls, [], h) (fun _ h' => tS2 hm sg H B h' ∧ h'.2.1 196 20 = 0) := by
  intro N
  induction N with
  | zero => intros; exact zPn.zero
  | succ N ih =>
    intro k h ls hk T s hl0 hl2
    have s196 : zsh h 196 = some (12, 39) := zsh_by T.1 (by decide +kernel)
    have s199 : zsh h 199 = some (14, 363) := zsh_by T.1 (by decide +kernel)
    have s201 : zsh h 201 = some (14, 76) := zsh_by T.1 (by decide +kernel)
    obtain ⟨r15, r17⟩ := T.2.1
    obtain ⟨hH, hB⟩ := T.2.2.1
    have e7 := T.2.2.2.1.2
    refine pa_iload_n (pc' := 256) dX12_post_255 hl2 rfl ?_
    refine pa_aload_n (pc' := 257) dX12_post_256 hl0 rfl ?_
    refine pa_getR (pc' := 260) (n := 39) (r := 199) dX12_post_257 fl_12_20 s196 (by decide) r15 rfl ?_
    refine pa_bipush (v := nI 7) (pc' := 262) dX12_post_260 (by decide) rfl ?_
    refine pa_iald (pc' := 263) dX12_post_262 s199 rfl (fun _ => ?_)
    rw [nI_clamp (by omega), e7]
    refine pa_icmp (pc' := 313) (pc2 := 266) dX12_post_263 (by decide) rfl (fun z => ?_) (fun z => ?_)
    · have z := zi_nlt (zk_ge_lt z)
      rw [nI_toInt (by omega), nI_toInt (by omega)] at z
      have ek : k = B := by omega
      subst ek
      exact T2_313 T s hl0
    · have z := zi_lt (zk_ge_lt z)
      rw [nI_toInt (by omega), nI_toInt (by omega)] at z
      obtain ⟨q1, q2, q3, q4⟩ := T.2.2.2.2.2 k (by omega)
      refine pa_aload_n (pc' := 267) dX12_post_266 hl0 rfl ?_
      refine pa_getR (pc' := 270) (n := 39) (r := 199) dX12_post_267 fl_12_20 s196 (by decide) r15 rfl ?_
      refine pa_bipush (v := nI 10) (pc' := 272) dX12_post_270 (by decide) rfl ?_
      refine pa_bipush (v := nI 7) (pc' := 274) dX12_post_272 (by decide) rfl ?_
      refine pa_aload_n (pc' := 275) dX12_post_274 hl0 rfl ?_
      refine pa_getR (pc' := 278) (n := 39) (r := 199) dX12_post_275 fl_12_20 s196 (by decide) r15 rfl ?_
      refine pa_bipush (v := nI 127) (pc' := 280) dX12_post_278 (by decide) rfl ?_
      refine pa_iconst (v := nI 4) (pc' := 281) dX12_post_280 (by decide) rfl ?_
      refine pa_iload_n (pc' := 282) dX12_post_281 hl2 rfl ?_
      refine pa_imul (pc' := 283) (v := nI (4 * k)) dX12_post_282 (nI_mul _ _) rfl ?_
      refine pa_iadd (pc' := 284) (v := nI (127 + 4 * k)) dX12_post_283 (nI_add _ _) rfl ?_
      refine pa_iconst (v := nI 1) (pc' := 285) dX12_post_284 (by decide) rfl ?_
      refine pa_iadd (pc' := 286) (v := nI (127 + 4 * k + 1)) dX12_post_285 (nI_add _ _) rfl ?_
      refine pa_iald (pc' := 287) dX12_post_286 s199 rfl (fun _ => ?_)
      rw [nI_clamp (by omega), q1]
      refine pa_imul (pc' := 288) (v := nI (7 * (to k))) dX12_post_287 (nI_mul _ _) rfl ?_
      refine pa_iadd (pc' := 289) (v := nI (10 + 7 * (to k))) dX12_post_288 (nI_add _ _) rfl ?_
      refine pa_iconst (v := nI 1) (pc' := 290) dX12_post_289 (by decide) rfl ?_
      refine pa_iadd (pc' := 291) (v := nI (10 + 7 * (to k) + 1)) dX12_post_290 (nI_add _ _) rfl ?_
      refine pa_aload_n (pc' := 292) dX12_post_291 hl0 rfl ?_
      refine pa_getR (pc' := 295) (n := 39) (r := 201) dX12_post_292 fl_12_26 s196 (by decide) r17 rfl ?_
      refine pa_bipush (v := nI 28) (pc' := 297) dX12_post_295 (by decide) rfl ?_
      refine pa_bipush (v := nI 6) (pc' := 299) dX12_post_297 (by decide) rfl ?_
      refine pa_iload_n (pc' := 300) dX12_post_299 hl2 rfl ?_
      refine pa_imul (pc' := 301) (v := nI (6 * k)) dX12_post_300 (nI_mul _ _) rfl ?_
      refine pa_iadd (pc' := 302) (v := nI (28 + 6 * k)) dX12_post_301 (nI_add _ _) rfl ?_
      refine pa_bipush (v := nI 6) (pc' := 304) dX12_post_302 (by decide) rfl ?_
      refine pa_calls (pc' := 307) (kd := 1) (vs := [.inr (.inr (some 199)), .inl (nI (10 + 7 * (to k) + 1)), .inr (.inr (some 201)), .inl (nI (28 + 6 * k)), .inl (nI 6)]) (rest := []) dX12_post_304 ml_12_176 (.inl rfl) rfl rfl rfl (fun d' _ => (M_copy s199 s201 (by decide) (by omega) (by omega) (by decide) (by decide))) (fun v g3 hq => ?_)
      obtain ⟨ev, eh⟩ := hq
      subst ev
      show zPn (N + 1) none d mX12_post (307, _, [], g3) _
      have B3 : hBut 201 h g3 := by
        rw [eh]
        exact ⟨rfl, rfl, fun a j ha => by rw [cpyH_at, if_neg (fun w => ha w.1)]⟩
      have at' : ∀ j, g3.2.1 201 j = if 28 + 6 * k ≤ j ∧ j < 28 + 6 * k + 6 then h.2.1 199 (10 + 7 * (to k) + 1 + (j - (28 + 6 * k))) else h.2.1 201 j := fun j => by
        rw [eh, cpyH_at]
        by_cases w : 28 + 6 * k ≤ j ∧ j < 28 + 6 * k + 6
        · rw [if_pos ⟨rfl, w⟩, if_pos w]
        · rw [if_neg (fun w' => w w'.2), if_neg w]
      clear eh
      refine pa_iinc (pc' := 310) (v := nI (k + 1)) dX12_post_307 hl2 (by decide) (nI_add k 1) rfl rfl ?_
      refine pa_gotos (pc' := 255) dX12_post_310 (by decide) ?_
      obtain ⟨s1, s2, s3, s4, s5, s6⟩ := s
      refine ih (k + 1) _ _ (by omega) (T.bt B3) ⟨by rw [at', if_neg (by omega)]; exact s1, by rw [at', if_neg (by omega)]; exact s2, fun w hw => by rw [at', if_neg (by omega)]; exact s3 w hw, fun w hw => by rw [at', if_neg (by omega)]; exact s4 w hw, fun b hb => ⟨by rw [at', if_neg (by omega)]; exact (s5 b hb).1, by rw [at', if_neg (by omega)]; exact (s5 b hb).2⟩, fun b hb j hj => ?_⟩ (zget_s1 hl0 (by decide) (by simp [zcat])) zget_s1e
      rw [at']
      by_cases w : b = k
      · subst w
        rw [if_pos (by omega), show 28 + 6 * b + j - (28 + 6 * b) = j by omega]
        exact q4 j hj
      · have l6 := (T.2.2.2.2.2 b (by omega)).2.2.1
        rw [if_neg (by omega)]
        exact s6 b (by omega) j hj
theorem T2_215 : ∀ (N k : Nat) (h : zH) (ls : zL), k ≤ H → tK2 H B hm to sg h → tS2 hm sg k 0 h → zget ls 0 = some (.inr (.inr (some 196))) → zget ls 2 = some (.inl (nI k)) → zPn N none d mX12_post (215, ls, [], h) (fun _ h' => tS2 hm sg H B h' ∧ h'.2.1 196 20 = 0) := by
  intro N
  induction N with
  | zero => intros; exact zPn.zero
  | succ N ih =>
    intro k h ls hk T s hl0 hl2
    have s196 : zsh h 196 = some (12, 39) := zsh_by T.1 (by decide +kernel)
    have s199 : zsh h 199 = some (14, 363) := zsh_by T.1 (by decide +kernel)
    have s201 : zsh h 201 = some (14, 76) := zsh_by T.1 (by decide +kernel)
    obtain ⟨r15, r17⟩ := T.2.1
    obtain ⟨hH, hB⟩ := T.2.2.1
    have e6 := T.2.2.2.1.1
    refine pa_iload_n (pc' := 216) dX12_post_215 hl2 rfl ?_
    refine pa_aload_n (pc' := 217) dX12_post_216 hl0 rfl ?_
    refine pa_getR (pc' := 220) (n := 39) (r := 199) dX12_post_217 fl_12_20 s196 (by decide) r15 rfl ?_
    refine pa_bipush (v := nI 6) (pc' := 222) dX12_post_220 (by decide) rfl ?_
    refine pa_iald (pc' := 223) dX12_post_222 s199 rfl (fun _ => ?_)
    rw [nI_clamp (by omega), e6]
    refine pa_icmp (pc' := 253) (pc2 := 226) dX12_post_223 (by decide) rfl (fun z => ?_) (fun z => ?_)
    · have z := zi_nlt (zk_ge_lt z)
      rw [nI_toInt (by omega), nI_toInt (by omega)] at z
      have ek : k = H := by omega
      subst ek
      refine pa_iconst (v := nI 0) (pc' := 254) dX12_post_253 (by decide) rfl ?_
      refine pa_istore_n (pc' := 255) dX12_post_254 (by decide) rfl rfl ?_
      exact T2_255 (N + 1) 0 _ _ (Nat.zero_le _) T s (zget_s1 hl0 (by decide) (by simp [zcat])) zget_s1e
    · have z := zi_lt (zk_ge_lt z)
      rw [nI_toInt (by omega), nI_toInt (by omega)] at z
      have q1 := T.2.2.2.2.1 k (by omega)
      refine pa_aload_n (pc' := 227) dX12_post_226 hl0 rfl ?_
      refine pa_getR (pc' := 230) (n := 39) (r := 201) dX12_post_227 fl_12_26 s196 (by decide) r17 rfl ?_
      refine pa_iconst (v := nI 2) (pc' := 231) dX12_post_230 (by decide) rfl ?_
      refine pa_iload_n (pc' := 232) dX12_post_231 hl2 rfl ?_
      refine pa_iadd (pc' := 233) (v := nI (2 + k)) dX12_post_232 (nI_add _ _) rfl ?_
      refine pa_aload_n (pc' := 234) dX12_post_233 hl0 rfl ?_
      refine pa_getR (pc' := 237) (n := 39) (r := 199) dX12_post_234 fl_12_20 s196 (by decide) r15 rfl ?_
      refine pa_bipush (v := nI 107) (pc' := 239) dX12_post_237 (by decide) rfl ?_
      refine pa_iconst (v := nI 4) (pc' := 240) dX12_post_239 (by decide) rfl ?_
      refine pa_iload_n (pc' := 241) dX12_post_240 hl2 rfl ?_
      refine pa_imul (pc' := 242) (v := nI (4 * k)) dX12_post_241 (nI_mul _ _) rfl ?_
      refine pa_iadd (pc' := 243) (v := nI (107 + 4 * k)) dX12_post_242 (nI_add _ _) rfl ?_
      refine pa_iconst (v := nI 1) (pc' := 244) dX12_post_243 (by decide) rfl ?_
      refine pa_iadd (pc' := 245) (v := nI (107 + 4 * k + 1)) dX12_post_244 (nI_add _ _) rfl ?_
      refine pa_iald (pc' := 246) dX12_post_245 s199 rfl (fun _ => ?_)
      rw [nI_clamp (by omega), q1]
      refine pa_iast (pc' := 247) dX12_post_246 s201 rfl (fun _ => ?_)
      rw [nI_clamp (by omega)]
      refine pa_iinc (pc' := 250) (v := nI (k + 1)) dX12_post_247 hl2 (by decide) (nI_add k 1) rfl rfl ?_
      refine pa_gotos (pc' := 215) dX12_post_250 (by decide) ?_
      have at' : ∀ j, (zsI h 201 (2 + k) (nI (hm k))).2.1 201 j = if j = 2 + k then nI (hm k) else h.2.1 201 j := fun j => by
        rw [zsI_at]
        by_cases w : j = 2 + k
        · rw [if_pos ⟨rfl, w⟩, if_pos w]
        · rw [if_neg (fun w' => w w'.2), if_neg w]
      obtain ⟨s1, s2, s3, s4, s5, s6⟩ := s
      refine ih (k + 1) _ _ (by omega) (T.bt hBut.rf.zs) ⟨by rw [at', if_neg (by omega)]; exact s1, by rw [at', if_neg (by omega)]; exact s2, fun w hw => by rw [at', if_neg (by omega)]; exact s3 w hw, fun w hw => ?_, fun b hb => ⟨by rw [at', if_neg (by omega)]; exact (s5 b hb).1, by rw [at', if_neg (by omega)]; exact (s5 b hb).2⟩, fun b hb => absurd hb (Nat.not_lt_zero b)⟩ (zget_s1 hl0 (by decide) (by simp [zcat])) zget_s1e
      rw [at']
      by_cases y : w = k
      · rw [if_pos (by omega), y]
      · rw [if_neg (by omega)]
        exact s4 w (by omega)
theorem T2_194 : ∀ (N k : Nat) (h : zH) (ls : zL), k ≤ 76 → tK2 H B hm to sg h → (∀ j, j < k → h.2.1 201 j = 0) → zget ls 0 = some (.inr (.inr (some 196))) → zget ls 2 = some (.inl (nI k)) → zPn N none d mX12_post (194, ls, [], h) (fun _ h' => tS2 hm sg H B h' ∧ h'.2.1 196 20 = 0) := by
  intro N
  induction N with
  | zero => intros; exact zPn.zero
  | succ N ih =>
    intro k h ls hk T s hl0 hl2
    have s196 : zsh h 196 = some (12, 39) := zsh_by T.1 (by decide +kernel)
    have s201 : zsh h 201 = some (14, 76) := zsh_by T.1 (by decide +kernel)
    obtain ⟨r15, r17⟩ := T.2.1
    refine pa_iload_n (pc' := 195) dX12_post_194 hl2 rfl ?_
    refine pa_bipush (v := nI 76) (pc' := 197) dX12_post_195 (by decide) rfl ?_
    refine pa_icmp (pc' := 213) (pc2 := 200) dX12_post_197 (by decide) rfl (fun z => ?_) (fun z => ?_)
    · have z := zi_nlt (zk_ge_lt z)
      rw [nI_toInt (by omega), nI_toInt (by omega)] at z
      refine pa_iconst (v := nI 0) (pc' := 214) dX12_post_213 (by decide) rfl ?_
      refine pa_istore_n (pc' := 215) dX12_post_214 (by decide) rfl rfl ?_
      exact T2_215 (N + 1) 0 _ _ (Nat.zero_le _) T ⟨s 0 (by omega), s 1 (by omega), fun w hw => s _ (by omega), fun w hw => absurd hw (Nat.not_lt_zero w), fun b hb => ⟨s _ (by omega), s _ (by omega)⟩, fun b hb => absurd hb (Nat.not_lt_zero b)⟩ (zget_s1 hl0 (by decide) (by simp [zcat])) zget_s1e
    · have z := zi_lt (zk_ge_lt z)
      rw [nI_toInt (by omega), nI_toInt (by omega)] at z
      refine pa_aload_n (pc' := 201) dX12_post_200 hl0 rfl ?_
      refine pa_getR (pc' := 204) (n := 39) (r := 201) dX12_post_201 fl_12_26 s196 (by decide) r17 rfl ?_
      refine pa_iload_n (pc' := 205) dX12_post_204 hl2 rfl ?_
      refine pa_iconst (v := nI 0) (pc' := 206) dX12_post_205 (by decide) rfl ?_
      refine pa_iast (pc' := 207) dX12_post_206 s201 rfl (fun _ => ?_)
      rw [nI_clamp (by omega)]
      refine pa_iinc (pc' := 210) (v := nI (k + 1)) dX12_post_207 hl2 (by decide) (nI_add k 1) rfl rfl ?_
      refine pa_gotos (pc' := 194) dX12_post_210 (by decide) ?_
      refine ih (k + 1) _ _ (by omega) (T.bt hBut.rf.zs) (fun j hj => ?_) (zget_s1 hl0 (by decide) (by simp [zcat])) zget_s1e
      rw [zsI_at]
      by_cases y : j = k
      · rw [if_pos ⟨rfl, y⟩]
        rfl
      · rw [if_neg (fun w => y w.2)]
        exact s j (by omega)
end TL2
def rtS (r : sF ⊕ pA) (_ : Option zV) (h' : zH) : Prop := ∀ A, r = .inr A → tA A → tB A → nMo A (nS0 A) 201 0 h' ∧ h'.2.1 196 20 = 0
section MD2
variable {R0 : Nat → Nat → Int32} {y : Nat → Int32} {n d N p q : Nat} {h h' g : zH} {A : pA} {nm : Nat → List Int32} {e : sF}
theorem M_fail2 {m : zM} {c : zC} : zPn N none d m c (rtS (.inl e)) := zPn.all (fun _ _ _ q => nomatch q)
theorem M_done2 {ls : zL} (hI : pI A) (K : mS R0 y n A nm p h) (hl0 : zget ls 0 = some (.inr (.inr (some 196)))) : zPn N none d mX12_post (163, ls, [], h) (rtS (.inr A)) := by
  by_cases q : tA A ∧ tB A
  case neg =>
    exact zPn.all (fun v h' B e hT hB => by
      cases e
      exact absurd ⟨hT, hB⟩ q)
  obtain ⟨hT, hB⟩ := q
  obtain ⟨b1, b2, b3, b4, b5⟩ := hI.2.2.1
  have hx := K.1.1
  have s196 := hx.sh sh_196
  have s199 := hx.sh sh_199
  have s200 := hx.sh sh_200
  have r15 := hx.2.1 _ _ _ rf_196_15
  have r16 := hx.2.1 _ _ _ rf_196_16
  have hf := K.2.1
  obtain ⟨m9, m0, m4, m5, m6, m7, m8, ms, mw, mp, mX'⟩ := K.2.2.1
  refine pa_aload_n (pc' := 164) dX12_post_163 hl0 rfl ?_
  refine pa_getI (pc' := 167) (n := 39) (v := 0) dX12_post_164 fl_12_100 s196 (by decide) hf rfl ?_
  refine pa_if_t (pc' := 176) dX12_post_167 (by decide) (by decide) ?_
  refine pa_aload_n (pc' := 177) dX12_post_176 hl0 rfl ?_
  refine pa_getR (pc' := 180) (n := 39) (r := 200) dX12_post_177 fl_12_23 s196 (by decide) r16 rfl ?_
  refine pa_iconst (v := 0) (pc' := 181) dX12_post_180 (by decide) rfl ?_
  refine pa_aload_n (pc' := 182) dX12_post_181 hl0 rfl ?_
  refine pa_getR (pc' := 185) (n := 39) (r := 199) dX12_post_182 fl_12_20 s196 (by decide) r15 rfl ?_
  refine pa_iconst (v := 0) (pc' := 186) dX12_post_185 (by decide) rfl ?_
  refine pa_sipush (v := 363) (pc' := 189) dX12_post_186 (by decide) rfl ?_
  refine pa_calls (pc' := 192) (kd := 1) (rest := []) dX12_post_189 ml_12_176 (.inl rfl) rfl rfl rfl (fun d' _ => m_cpR s200 s199) (fun v g hq => ?_)
  obtain ⟨er, hb, hq⟩ := hq
  subst er
  show zPn N none d mX12_post (192, ls, [], g) _
  refine pa_iconst (v := nI 0) (pc' := 193) dX12_post_192 (by decide) rfl ?_
  refine pa_istore_n (pc' := 194) dX12_post_193 (by decide) rfl rfl ?_
  have T : tK2 (cH A) (cB A) (fun w => nu A (108 + 4 * w)) (fun b => nu A (128 + 4 * b)) (fun b => A.2.2.1 (nu A (128 + 4 * b))) g := by
    refine ⟨hb.1.trans hx.1, ⟨by rw [hb.2.1]; exact r15, by rw [hb.2.1]; exact hx.2.1 _ _ _ rf_196_17⟩, ⟨b3, b4⟩, ⟨(hq 6 (by decide)).trans m6, (hq 7 (by decide)).trans m7⟩, fun w hw => ?_, fun b hb2 => ?_⟩
    · rw [hq _ (by omega), (mX' _ (hT.2.2.1 w hw 1 (by decide))).2]
      exact ((num_whale hI hB hT hw).2.2.2.2 1 (by decide)).trans (congrArg (fun z => nI (nu A z)) (by omega))
    · obtain ⟨-, q2, -⟩ := num_box hI hB hT hb2
      obtain ⟨o1, o2, -, o4, o5, -⟩ := okN_of hI q2
      refine ⟨?_, Nat.lt_of_lt_of_le q2 b1, o2, fun j hj => ?_⟩
      · rw [hq _ (by omega), (mX' _ (hT.2.2.2.1 b hb2 1 (by decide))).2]
        exact ((num_box hI hB hT hb2).2.2.2.2 1 (by decide)).trans (congrArg (fun z => nI (nu A z)) (by omega))
      · have hj : j < (A.2.2.1 (nu A (128 + 4 * b))).length := hj
        show g.2.1 199 (10 + 7 * nu A (128 + 4 * b) + 1 + j) = nI (dg ((A.2.2.1 (nu A (128 + 4 * b))).getD j 0))
        rw [hq _ (by omega), (ms _ q2).2 j hj]
        have := o1 _ (getD_in hj)
        exact nt_sub this.1 (by omega)
  refine (T2_194 N 0 g _ (Nat.zero_le _) T (fun j hj => absurd hj (Nat.not_lt_zero j)) (zget_s1 hl0 (by decide) (by simp [zcat])) zget_s1e).mono (fun v h' hq2 B e _ _ => ?_)
  cases e
  obtain ⟨⟨s1, s2, s3, s4, s5, s6⟩, s7⟩ := hq2
  exact ⟨⟨s1, s2, fun w hw => ⟨by rw [Nat.zero_add]; exact s4 w hw, by rw [Nat.zero_add]; exact s3 w (by omega)⟩, fun b hb => ⟨by rw [Nat.zero_add]; exact (s5 b (by omega)).1, by rw [Nat.zero_add]; exact (s5 b (by omega)).2, fun k hk => by rw [Nat.zero_add]; exact s6 b hb k hk⟩⟩, s7⟩
end MD2
/-! post: what it leaves of the state, in the reference: its loop -/
section ML2
variable {R0 : Nat → Nat → Int32} {y : Nat → Int32} {n d N p q : Nat} {h h' g : zH} {A : pA} {nm : Nat → List Int32} {e : sF}
theorem M_loop2 : ∀ (N f : Nat) (r : sR) (h : zH) (ls : zL), lpS R0 y n r h → (∀ q, r = .inr q → pI q.1 ∧ n < q.2 + f + 1) → zget ls 0 = some (.inr (.inr (some 196))) → zPn N none (d + 1) mX12_post (77, ls, [], h) (rtS (sFin y n f r)) := by
  intro N
  induction N with
  | zero => intro f r h ls _ _ _; exact zPn.zero
  | succ N ih =>
    intro f r h ls K hr hl0
    match r, K, hr with
    | .inl e, K, hr =>
      have K : mF R0 y n e h := K
      have s196 := K.1.sh sh_196
      have hf := K.2.1
      refine pa_aload_n (pc' := 78) dX12_post_77 hl0 rfl ?_
      refine pa_getI (pc' := 81) (n := 39) dX12_post_78 fl_12_100 s196 (by decide) hf rfl ?_
      refine pa_if_t (pc' := 104) dX12_post_81 (by decide) (by decide) ?_
      refine pa_aload_n (pc' := 105) dX12_post_104 hl0 rfl ?_
      refine pa_getI (pc' := 108) (n := 39) dX12_post_105 fl_12_100 s196 (by decide) hf rfl ?_
      refine pa_if_t (pc' := 127) dX12_post_108 (by decide) (by decide) ?_
      refine pa_aload_n (pc' := 128) dX12_post_127 hl0 rfl ?_
      refine pa_getI (pc' := 131) (n := 39) dX12_post_128 fl_12_100 s196 (by decide) hf rfl ?_
      refine pa_if_t (pc' := 163) dX12_post_131 (by decide) (by decide) ?_
      exact M_fail2
    | .inr (A, p), K, hr =>
      have K : mS R0 y n A A.2.1 p h := K
      obtain ⟨hI, hfu⟩ := hr (A, p) rfl
      dsimp only at hI hfu
      have hx := K.1.1
      have hp := K.1.2.1
      have s196 := hx.sh sh_196
      have s200 := hx.sh sh_200
      have r196_16 := hx.2.1 _ _ _ rf_196_16
      have hf := K.2.1
      have k4 := K.1.2.2.1
      have ht := K.1.2.2.2.2.1
      have wr : ∀ {k : Int32} {pc : Nat}, mF R0 y n (k, tS y n p) (wrg h k (tS y n p)) := fun {k pc} => wrg_mF hx
      show zPn (N + 1) none (d + 1) mX12_post (77, ls, [], h) (rtS (if tT y n p = 0 then (if cI A = 0 then .inl (6, tS y n p) else .inr A) else if tT y n p = 59 then sText y n f A (tE y n p) else .inl (1, tS y n p)))
      refine pa_aload_n (pc' := 78) dX12_post_77 hl0 rfl ?_
      refine pa_getI (pc' := 81) (n := 39) dX12_post_78 fl_12_100 s196 (by decide) hf rfl ?_
      refine pa_if_f (pc' := 84) dX12_post_81 (by decide) (by decide) rfl ?_
      refine pa_aload_n (pc' := 85) dX12_post_84 hl0 rfl ?_
      refine pa_getI (pc' := 88) (n := 39) dX12_post_85 fl_12_90 s196 (by decide) ht rfl ?_
      refine pa_bipush (v := 59) (pc' := 90) dX12_post_88 (by decide) rfl ?_
      by_cases t0 : tT y n p = 0
      · rw [if_pos t0]
        refine pa_icmp_t (pc' := 104) dX12_post_90 (by rw [t0]; decide) (by decide) ?_
        refine pa_aload_n (pc' := 105) dX12_post_104 hl0 rfl ?_
        refine pa_getI (pc' := 108) (n := 39) dX12_post_105 fl_12_100 s196 (by decide) hf rfl ?_
        refine pa_if_f (pc' := 111) dX12_post_108 (by decide) (by decide) rfl ?_
        refine pa_aload_n (pc' := 112) dX12_post_111 hl0 rfl ?_
        refine pa_getI (pc' := 115) (n := 39) dX12_post_112 fl_12_90 s196 (by decide) ht rfl ?_
        refine pa_if_t (pc' := 127) dX12_post_115 (by rw [t0]; decide) (by decide) ?_
        refine pa_aload_n (pc' := 128) dX12_post_127 hl0 rfl ?_
        refine pa_getI (pc' := 131) (n := 39) dX12_post_128 fl_12_100 s196 (by decide) hf rfl ?_
        refine pa_if_f (pc' := 134) dX12_post_131 (by decide) (by decide) rfl ?_
        refine pa_aload_n (pc' := 135) dX12_post_134 hl0 rfl ?_
        refine pa_getR (pc' := 138) (n := 39) (r := 200) dX12_post_135 fl_12_23 s196 (by decide) r196_16 rfl ?_
        refine pa_bipush (v := nI 9) (pc' := 140) dX12_post_138 (by decide) rfl ?_
        refine pa_iald (pc' := 141) (n := 363) dX12_post_140 s200 rfl (fun _ => ?_)
        rw [nI_clamp (by omega), K.2.2.1.1]
        have w6 : cI A = 0 → zPn (N + 1) none (d + 1) mX12_post (153, ls, [], h) (rtS (.inl (6, tS y n p))) := by
          intro i0
          refine pa_aload_n (pc' := 154) dX12_post_153 hl0 rfl ?_
          refine pa_bipush (v := 6) (pc' := 156) dX12_post_154 (by decide) rfl ?_
          refine pa_aload_n (pc' := 157) dX12_post_156 hl0 rfl ?_
          refine pa_getI (pc' := 160) (n := 39) dX12_post_157 fl_12_81 s196 (by decide) k4 rfl ?_
          refine pa_callv (pc' := 163) (vs := [.inl 6, .inl (nI (tS y n p))]) (rest := []) dX12_post_160 ml_12_127 (by decide) rfl rfl rfl (fun d' _ => m_wrong hx hf rfl) (fun v g2 hq => ?_)
          obtain ⟨er, hq⟩ := hq
          subst er; subst hq
          exact M_fail2
        by_cases h0 : A.1 = 0
        · have i0 := (hI.2.1 h0).1
          rw [if_pos h0, if_pos i0]
          exact pa_if_t (pc' := 153) dX12_post_141 (by decide) (by decide) (w6 i0)
        · rw [if_neg h0]
          refine pa_if_f (pc' := 144) dX12_post_141 (by decide) (by decide) rfl ?_
          refine pa_aload_n (pc' := 145) dX12_post_144 hl0 rfl ?_
          refine pa_getR (pc' := 148) (n := 39) (r := 200) dX12_post_145 fl_12_23 s196 (by decide) r196_16 rfl ?_
          refine pa_iconst (v := nI 4) (pc' := 149) dX12_post_148 (by decide) rfl ?_
          refine pa_iald (pc' := 150) (n := 363) dX12_post_149 s200 rfl (fun _ => ?_)
          rw [nI_clamp (by omega), K.2.2.1.2.2.1]
          by_cases i0 : cI A = 0
          · rw [if_pos i0]
            refine pa_if_f (pc' := 153) dX12_post_150 (by rw [i0]; decide) (by decide) rfl (w6 i0)
          · rw [if_neg i0]
            have bI := hI.2.2.1.1
            refine pa_if_t (pc' := 163) dX12_post_150 (decide_eq_true (fun z => i0 (by
              have := congrArg Int32.toInt z
              rw [nI_toInt (by omega), show (0 : Int32).toInt = 0 by decide] at this
              omega))) (by decide) ?_
            exact M_done2 hI K hl0
      · rw [if_neg t0]
        by_cases t59 : tT y n p = 59
        · rw [if_pos t59]
          have hb := t59_gt (y := y) hp t59
          refine pa_icmp_f (pc' := 93) dX12_post_90 (by rw [t59]; decide) (by decide) rfl ?_
          refine pa_aload_n (pc' := 94) dX12_post_93 hl0 rfl ?_
          refine pa_callv (pc' := 97) (vs := []) (rest := []) dX12_post_94 ml_12_121 (by decide) rfl rfl rfl (fun d' _ => m_next hx K.1.2.2.2.1 hb.2) (fun v g2 hq => ?_)
          obtain ⟨er, hq⟩ := hq
          subst er
          have K2 := K.nx hq hb.2
          show zPn (N + 1) none (d + 1) mX12_post (97, ls, [], g2) _
          refine pa_aload_n (pc' := 98) dX12_post_97 hl0 rfl ?_
          refine pa_callv (pc' := 101) (vs := []) (rest := []) dX12_post_98 ml_12_173 (by decide) rfl rfl rfl (fun d' _ => M_line hI K2) (fun v g3 hq => ?_)
          obtain ⟨er, hq⟩ := hq
          subst er
          show zPn (N + 1) none (d + 1) mX12_post (101, ls, [], g3) _
          refine pa_gotos (pc' := 77) dX12_post_101 (by decide) ?_
          obtain ⟨f', ef⟩ : ∃ f', f = f' + 1 := ⟨f - 1, by omega⟩
          subst ef
          rw [sText_fin]
          refine ih f' (sLine y n A (tE y n p)) g3 ls hq (fun q eq => ?_) hl0
          have ge := sLine_ge (A' := q.1) (q := q.2) hb.2 eq
          exact ⟨sLine_pI hI hb.2 eq, by omega⟩
        · rw [if_neg t59]
          refine pa_icmp_t (pc' := 104) dX12_post_90 (decide_eq_true t59) (by decide) ?_
          refine pa_aload_n (pc' := 105) dX12_post_104 hl0 rfl ?_
          refine pa_getI (pc' := 108) (n := 39) dX12_post_105 fl_12_100 s196 (by decide) hf rfl ?_
          refine pa_if_f (pc' := 111) dX12_post_108 (by decide) (by decide) rfl ?_
          refine pa_aload_n (pc' := 112) dX12_post_111 hl0 rfl ?_
          refine pa_getI (pc' := 115) (n := 39) dX12_post_112 fl_12_90 s196 (by decide) ht rfl ?_
          refine pa_if_f (pc' := 118) dX12_post_115 (decide_eq_false t0) (by decide) rfl ?_
          refine pa_aload_n (pc' := 119) dX12_post_118 hl0 rfl ?_
          refine pa_iconst (v := 1) (pc' := 120) dX12_post_119 (by decide) rfl ?_
          refine pa_aload_n (pc' := 121) dX12_post_120 hl0 rfl ?_
          refine pa_getI (pc' := 124) (n := 39) dX12_post_121 fl_12_81 s196 (by decide) k4 rfl ?_
          refine pa_callv (pc' := 127) (vs := [.inl 1, .inl (nI (tS y n p))]) (rest := []) dX12_post_124 ml_12_127 (by decide) rfl rfl rfl (fun d' _ => m_wrong hx hf rfl) (fun v g2 hq => ?_)
          obtain ⟨er, hq⟩ := hq
          subst er; subst hq
          have hF : mF R0 y n (1, tS y n p) (wrg h 1 (tS y n p)) := wrg_mF hx
          have s196 := hF.1.sh sh_196
          have hf := hF.2.1
          show zPn (N + 1) none (d + 1) mX12_post (127, ls, [], wrg h 1 (tS y n p)) _
          refine pa_aload_n (pc' := 128) dX12_post_127 hl0 rfl ?_
          refine pa_getI (pc' := 131) (n := 39) dX12_post_128 fl_12_100 s196 (by decide) hf rfl ?_
          refine pa_if_t (pc' := 163) dX12_post_131 (by decide) (by decide) ?_
          exact M_fail2
/-- the reference's post from the text on -/
theorem M_text2 (h1 : h.1 = hh_487.1) (h2 : ∀ a k b, wd.2.2.1 a k = some b → h.2.2.2.1 a k = some b) (hn : n ≤ 1000) (hy : ∀ k, k < n → TB (y k) (h.2.1 197 k)) : zPn N none (d + 1) mX12_post (27, [(0, .inr (.inr (some 196))), (1, .inl (nI n))], [], h) (rtS (sText y n (n + 1) pA0 0)) := by
  have zs : ∀ {g : zH} {a : Nat} {q : Option (Nat × Nat)}, g.1 = hh_487.1 → zsh hh_487 a = q → zsh g a = q := fun e1 e2 => by unfold zsh; rw [e1]; exact e2
  have s196 := zs h1 sh_196
  refine pa_aload_n (pc' := 28) dX12_post_27 rfl rfl ?_
  refine pa_iconst (v := 0) (pc' := 29) dX12_post_28 (by decide) rfl ?_
  refine pa_putI (pc' := 32) (n := 39) dX12_post_29 fl_12_104 s196 (Or.inl rfl) (Or.inl rfl) rfl ?_
  refine pa_aload_n (pc' := 33) dX12_post_32 rfl rfl ?_
  refine pa_iconst (v := 0) (pc' := 34) dX12_post_33 (by decide) rfl ?_
  refine pa_putI (pc' := 37) (n := 39) dX12_post_34 fl_12_100 s196 (Or.inl rfl) (Or.inr ⟨rfl, by decide⟩) rfl ?_
  refine pa_iconst (v := nI 0) (pc' := 38) dX12_post_37 (by decide) rfl ?_
  refine pa_istore_n (pc' := 39) dX12_post_38 (by decide) rfl rfl ?_
  let Z : zH := zsI (zsI h 196 9 0) 196 13 0
  have Z13 : Z.2.1 196 13 = 0 := zsI_eq
  have Z197 : ∀ k, Z.2.1 197 k = h.2.1 197 k := fun k => by
    show (zsI (zsI h 196 9 0) 196 13 0).2.1 197 k = _
    rw [zsI_no (by omega), zsI_no (by omega)]
  have lp : ∀ (N k : Nat) (g : zH) (ls : zL), k ≤ 363 → hBut 200 Z g → (∀ j, j < k → g.2.1 200 j = 0) → zget ls 0 = some (.inr (.inr (some 196))) → zget ls 1 = some (.inl (nI n)) → zget ls 2 = some (.inl (nI k)) → zPn N none (d + 1) mX12_post (39, ls, [], g) (rtS (sText y n (n + 1) pA0 0)) := by
    intro N
    induction N with
    | zero => intro k g ls _ _ _ _ _ _; exact zPn.zero
    | succ N ih =>
      intro k g ls hk hg hj hl0 hl1 hl2
      have s196 : zsh g 196 = some (12, 39) := hg.sh (zs h1 sh_196)
      have s200 : zsh g 200 = some (14, 363) := hg.sh (zs h1 sh_200)
      have g2 : ∀ a k b, wd.2.2.1 a k = some b → g.2.2.2.1 a k = some b := fun a k b hb => by rw [hg.2.1]; exact h2 a k b hb
      have r196_16 := g2 _ _ _ rf_196_16
      refine pa_iload_n (pc' := 40) dX12_post_39 hl2 rfl ?_
      refine pa_sipush (v := nI 363) (pc' := 43) dX12_post_40 (by decide) rfl ?_
      refine pa_icmp (pc' := 59) (pc2 := 46) dX12_post_43 (by decide) rfl (fun c => ?_) (fun c => ?_)
      · have c := zi_nlt (zk_ge_lt c)
        rw [nI_toInt (by omega), nI_toInt (by omega)] at c
        refine pa_aload_n (pc' := 60) dX12_post_59 hl0 rfl ?_
        refine pa_iload_n (pc' := 61) dX12_post_60 hl1 rfl ?_
        refine pa_putI (pc' := 64) (n := 39) dX12_post_61 fl_12_71 s196 (Or.inl rfl) (Or.inl rfl) rfl ?_
        refine pa_aload_n (pc' := 65) dX12_post_64 hl0 rfl ?_
        refine pa_iconst (v := nI 0) (pc' := 66) dX12_post_65 (by decide) rfl ?_
        refine pa_putI (pc' := 69) (n := 39) dX12_post_66 fl_12_74 s196 (Or.inl rfl) (Or.inl rfl) rfl ?_
        refine pa_aload_n (pc' := 70) dX12_post_69 hl0 rfl ?_
        have hx : mx h.2.1 y n (zsI (zsI g 196 3 (nI n)) 196 5 (nI 0)) := ⟨hg.1.trans h1, g2, by rw [zsI_no (by omega), zsI_eq], hn, fun j hj => by
          rw [zsI_no (by omega), zsI_no (by omega), hg.2.2 197 j (by decide), Z197]
          exact hy j hj, fun a j hk => by
          unfold mKp at hk
          rw [zsI_no (by omega), zsI_no (by omega), hg.2.2 a j (by omega)]
          show (zsI (zsI h 196 9 0) 196 13 0).2.1 a j = _
          rw [zsI_no (by omega), zsI_no (by omega)]⟩
        refine pa_callv (pc' := 73) (vs := []) (rest := []) dX12_post_70 ml_12_121 (by decide) rfl rfl rfl (fun d' _ => m_next hx zsI_eq (Nat.zero_le _)) (fun v g3 hq => ?_)
        obtain ⟨er, hq⟩ := hq
        subst er
        have c0 : ∀ j, j < 363 → g3.2.1 200 j = 0 := fun j hj3 => by
          rw [hq.2.2.1 200 j (by omega) (by omega), zsI_no (by omega), zsI_no (by omega)]
          exact hj j (by omega)
        have K : mS h.2.1 y n pA0 pA0.2.1 0 g3 := by
          refine ⟨hq.mT hx (Nat.zero_le _), ?_, ⟨?_, fun z => absurd rfl z, c0 4 (by decide), c0 5 (by decide), c0 6 (by decide), c0 7 (by decide), c0 8 (by decide), fun i hi => absurd hi (Nat.not_lt_zero i), fun i hi => absurd hi (Nat.not_lt_zero i), fun i hi => absurd hi (Nat.not_lt_zero i), fun j hj => absurd rfl hj⟩, fun i hi => ⟨c0 (183 + i) (by omega), fun j hj => absurd hj (Nat.not_lt_zero j)⟩⟩
          · rw [hq.2.2.1 196 13 (by omega) (by omega), zsI_no (by omega), zsI_no (by omega), hg.2.2 196 13 (by decide)]
            exact Z13
          · rw [if_pos (show pA0.1 = 0 from rfl)]
            exact c0 9 (by decide)
        show zPn (N + 1) none (d + 1) mX12_post (73, ls, [], g3) _
        refine pa_aload_n (pc' := 74) dX12_post_73 hl0 rfl ?_
        refine pa_callv (pc' := 77) (vs := []) (rest := []) dX12_post_74 ml_12_173 (by decide) rfl rfl rfl (fun d' _ => M_line pI_0 K) (fun v g4 hq => ?_)
        obtain ⟨er, hq⟩ := hq
        subst er
        show zPn (N + 1) none (d + 1) mX12_post (77, ls, [], g4) _
        rw [sText_fin]
        refine M_loop2 _ n (sLine y n pA0 0) g4 ls hq (fun q eq => ?_) hl0
        exact ⟨sLine_pI pI_0 (Nat.zero_le n) eq, by omega⟩
      · have c := zi_lt (zk_ge_lt c)
        rw [nI_toInt (by omega), nI_toInt (by omega)] at c
        refine pa_aload_n (pc' := 47) dX12_post_46 hl0 rfl ?_
        refine pa_getR (pc' := 50) (n := 39) (r := 200) dX12_post_47 fl_12_23 s196 (by decide) r196_16 rfl ?_
        refine pa_iload_n (pc' := 51) dX12_post_50 hl2 rfl ?_
        refine pa_iconst (v := 0) (pc' := 52) dX12_post_51 (by decide) rfl ?_
        refine pa_iast (pc' := 53) (n := 363) dX12_post_52 s200 rfl (fun _ => ?_)
        rw [nI_clamp (by omega)]
        refine pa_iinc (pc' := 56) (v := nI (k + 1)) dX12_post_53 hl2 (by decide) (nI_add k 1) rfl rfl ?_
        refine pa_gotos (pc' := 39) dX12_post_56 (by decide) ?_
        refine ih (k + 1) _ _ (by omega) hg.zs (fun j hj3 => ?_) (zget_s1 hl0 (by decide) (by simp [zcat])) (zget_s1 hl1 (by decide) (by simp [zcat])) zget_s1e
        by_cases ej : j = k
        · subst ej
          exact zsI_eq
        · rw [zsI_no (by omega)]
          exact hj j (by omega)
  exact lp N 0 _ _ (Nat.zero_le _) hBut.rf (fun j hj => absurd hj (Nat.not_lt_zero j)) rfl rfl rfl
end ML2
section PN2
variable {x : Int32} {s d : Nat} {h : zH}
theorem N_post12n (ho : hOK wd h) (e1 : h.1 = hh_487.1) (ht : h.2.1 196 2 = nI s) (hs : s ≤ 1000) {y : Nat → Int32} (hy : ∀ k : Nat, (k : Int) < (nI s).toInt → TB (y k) (h.2.1 197 k)) : zPa (d + 1) mX12_post [.inr (.inr (some 196)), .inl x] h (fun v h' => (¬ pOK x s ∧ v = some (.inl (-1)) ∧ h' = zsI (zsI (zsI h 196 0 0) 196 11 0) 196 11 2) ∨ (pOK x s ∧ rtS (pst y x) v h')) := by
  intro N
  have s196 : zsh h 196 = some (12, 39) := ho.1 196 (12, 39) (by decide +kernel)
  show zPn N none (d + 1) mX12_post (0, [(0, .inr (.inr (some 196))), (1, .inl x)], [], h) _
  refine pa_aload_n (pc' := 1) dX12_post_0 rfl rfl ?_
  refine pa_callv (pc' := 4) (vs := []) (rest := []) dX12_post_1 ml_12_167 (by decide) rfl rfl rfl (fun d' _ => m_good s196) (fun v g hq => ?_)
  obtain ⟨er, eg⟩ := hq
  subst er
  have e2 : g.2.1 196 2 = nI s := by rw [eg, zsI_no (by omega), zsI_no (by omega)]; exact ht
  have eg1 : g.1 = h.1 := by rw [eg]; rfl
  have egr : ∀ a k, g.2.2.2.1 a k = h.2.2.2.1 a k := by rw [eg]; exact fun _ _ => rfl
  have e197 : ∀ k, g.2.1 197 k = h.2.1 197 k := fun k => by rw [eg, zsI_no (by omega), zsI_no (by omega)]
  have s196 : zsh g 196 = some (12, 39) := by unfold zsh at *; rw [eg1]; exact s196
  show zPn N none (d + 1) mX12_post (4, [(0, .inr (.inr (some 196))), (1, .inl x)], [], g) _
  refine pa_iload_n (pc' := 5) dX12_post_4 rfl rfl ?_
  refine pa_iconst (v := 0) (pc' := 6) dX12_post_5 (by decide) rfl ?_
  refine pa_aload_n (pc' := 7) dX12_post_6 rfl rfl ?_
  refine pa_getI (pc' := 10) (n := 39) (v := nI s) dX12_post_7 fl_12_68 s196 (by decide) e2 rfl ?_
  refine pa_calls (pc' := 13) (kd := 1) (vs := [.inl x, .inl 0, .inl (nI s)]) (rest := []) dX12_post_10 ml_12_149 (.inl rfl) rfl rfl rfl (fun d' _ => zPa.of in_ex) (fun r h2 hq => ?_)
  obtain ⟨r, er, eh, hq⟩ := hq
  subst er; subst eh
  rw [nI_toInt (by omega)] at hq
  show zPn N none (d + 1) mX12_post (13, [(0, .inr (.inr (some 196))), (1, .inl x)], [.inl r], h2) _
  rcases hq with ⟨e, c⟩ | ⟨e, c⟩
  · subst e
    have c : pOK x s := c
    refine pa_if_t (pc' := 22) dX12_post_13 (by decide) (by decide) ?_
    refine pa_aload_n (pc' := 23) dX12_post_22 rfl rfl ?_
    refine pa_iconst (v := 0) (pc' := 24) dX12_post_23 (by decide) rfl ?_
    refine pa_putI (pc' := 27) (n := 39) dX12_post_24 fl_12_68 s196 (Or.inl rfl) (Or.inl rfl) rfl ?_
    obtain ⟨en, hn⟩ := c.nI hs
    have key := M_text2 (N := N) (d := d) (n := x.toInt.toNat) (y := y) (h := zsI h2 196 2 0) (eg1.trans e1) (fun a k b hb => (egr a k).trans (ho.2.2.1 a k b hb)) (by omega) (fun k hk => by
      rw [zsI_no (by omega), e197]
      exact hy k (by rw [nI_toInt (by omega)]; omega))
    rw [← en] at key
    exact key.mono (fun v h' hq => .inr ⟨c, hq⟩)
  · subst e
    refine pa_if_f (pc' := 16) dX12_post_13 (by decide) (by decide) rfl ?_
    refine pa_aload_n (pc' := 17) dX12_post_16 rfl rfl ?_
    refine pa_iconst (v := 2) (pc' := 18) dX12_post_17 (by decide) rfl ?_
    refine pa_callv (pc' := 21) (vs := [.inl 2]) (rest := []) dX12_post_18 ml_12_170 (by decide) rfl rfl rfl (fun d' _ => m_no s196) (fun v g2 hq => ?_)
    obtain ⟨ev, eg2⟩ := hq
    subst ev
    exact pa_iret dX12_post_21 rfl rfl (.inl ⟨c, rfl, by rw [eg2, eg]⟩)
end PN2
