/-! apart -/
def df : List Int32 → List Int32 → Nat
  | a :: w, b :: w' => (if a = b then 0 else 1) + df w w'
  | _, _ => 0
def dz : Nat → Nat → Nat
  | 0, _ => 0
  | k + 1, x => (if x % 4 = 0 then 0 else 1) + dz k (x / 4)
theorem dz_0 : ∀ k, dz k 0 = 0
  | 0 => rfl
  | k + 1 => by
    show (if 0 % 4 = 0 then 0 else 1) + dz k (0 / 4) = 0
    rw [show 0 / 4 = 0 from rfl, dz_0 k]
    rfl
theorem xor4 : ∀ d, d < 4 → ∀ e, e < 4 → (d ^^^ e = 0 ↔ d = e) := by decide
theorem dz_fold : ∀ (w w' : List Int32) (v v' k : Nat), w.length = w'.length → w.all isNt = true → w'.all isNt = true → dz (k + w.length) (w.foldl (fun v b => 4 * v + (b.toInt.toNat - 97)) v ^^^ w'.foldl (fun v b => 4 * v + (b.toInt.toNat - 97)) v') = dz k (v ^^^ v') + df w w'
  | [], [], v, v', k, _, _, _ => rfl
  | [], _ :: _, _, _, _, h, _, _ => by cases h
  | _ :: _, [], _, _, _, h, _, _ => by cases h
  | b :: w, b' :: w', v, v', k, hl, h1, h2 => by
    simp only [List.all_cons, Bool.and_eq_true] at h1 h2
    simp only [List.length_cons] at hl
    have r1 := isNt_rg h1.1
    have r2 := isNt_rg h2.1
    have ih := dz_fold w w' (4 * v + (b.toInt.toNat - 97)) (4 * v' + (b'.toInt.toNat - 97)) (k + 1) (by omega) h1.2 h2.2
    show dz (k + (w.length + 1)) _ = dz k (v ^^^ v') + ((if b = b' then 0 else 1) + df w w')
    rw [show k + (w.length + 1) = k + 1 + w.length by omega]
    refine ih.trans ?_
    have e1 : ((4 * v + (b.toInt.toNat - 97)) ^^^ (4 * v' + (b'.toInt.toNat - 97))) / 4 = v ^^^ v' := by
      have := Nat.xor_div_two_pow (a := 4 * v + (b.toInt.toNat - 97)) (b := 4 * v' + (b'.toInt.toNat - 97)) (n := 2)
      rw [show 2 ^ 2 = 4 from rfl] at this
      rw [this, show (4 * v + (b.toInt.toNat - 97)) / 4 = v by omega, show (4 * v' + (b'.toInt.toNat - 97)) / 4 = v' by omega]
    have e2 : ((4 * v + (b.toInt.toNat - 97)) ^^^ (4 * v' + (b'.toInt.toNat - 97))) % 4 = (b.toInt.toNat - 97) ^^^ (b'.toInt.toNat - 97) := by
      have := Nat.xor_mod_two_pow (a := 4 * v + (b.toInt.toNat - 97)) (b := 4 * v' + (b'.toInt.toNat - 97)) (n := 2)
      rw [show 2 ^ 2 = 4 from rfl] at this
      rw [this, show (4 * v + (b.toInt.toNat - 97)) % 4 = b.toInt.toNat - 97 by omega, show (4 * v' + (b'.toInt.toNat - 97)) % 4 = b'.toInt.toNat - 97 by omega]
    show (if ((4 * v + (b.toInt.toNat - 97)) ^^^ (4 * v' + (b'.toInt.toNat - 97))) % 4 = 0 then 0 else 1) + dz k (((4 * v + (b.toInt.toNat - 97)) ^^^ (4 * v' + (b'.toInt.toNat - 97))) / 4) + df w w' = _
    rw [e1, e2]
    have e3 := xor4 (b.toInt.toNat - 97) (by omega) (b'.toInt.toNat - 97) (by omega)
    by_cases hb : b = b'
    · rw [if_pos hb, if_pos (e3.mpr (by rw [hb]))]
      omega
    · rw [if_neg hb, if_neg (fun z => hb (Int32.toInt_inj.mp (by have := e3.mp z; omega)))]
      omega
/-- bits as they are counted -/
def us (x y : Int32) : Int32 := (x.toUInt32 >>> (y.toUInt32 &&& Int32.toUInt32 31)).toInt32
def bc1 (x : Int32) : Int32 := x - (us x 1 &&& 1431655765)
def bc2 (x : Int32) : Int32 := (x &&& 858993459) + (us x 2 &&& 858993459)
def bc3 (x : Int32) : Int32 := (x + us x 4) &&& 252645135
def bc4 (x : Int32) : Int32 := x + us x 8
def bc5 (x : Int32) : Int32 := x + us x 16
def bcF (x : Int32) : Int32 := bc5 (bc4 (bc3 (bc2 (bc1 x)))) &&& 63
def uV (a b : Int32) : Int32 := bcF (((a ^^^ b) ||| (a ^^^ b) >>> (1 &&& 31)) &&& 1365)
def tbC (n : Nat) : Bool := (List.range 1024).all (fun x => decide (bcF ((nI (1024 * n + x) ||| nI (1024 * n + x) >>> (1 &&& 31)) &&& 1365) = nI (dz 6 (1024 * n + x))))
set_option maxRecDepth 100000 in
theorem tbC_0 : tbC 0 = true := by decide +kernel
set_option maxRecDepth 100000 in
theorem tbC_1 : tbC 1 = true := by decide +kernel
set_option maxRecDepth 100000 in
theorem tbC_2 : tbC 2 = true := by decide +kernel
set_option maxRecDepth 100000 in
theorem tbC_3 : tbC 3 = true := by decide +kernel
theorem tbC_at {n : Nat} (k : tbC n = true) {x : Nat} (hx : x < 1024) : bcF ((nI (1024 * n + x) ||| nI (1024 * n + x) >>> (1 &&& 31)) &&& 1365) = nI (dz 6 (1024 * n + x)) := of_decide_eq_true (List.all_eq_true.mp k x (List.mem_range.mpr hx))
theorem tb_all {x : Nat} (hx : x < 4096) : bcF ((nI x ||| nI x >>> (1 &&& 31)) &&& 1365) = nI (dz 6 x) := by
  have key : ∀ n, tbC n = true → 1024 * n ≤ x → x < 1024 * n + 1024 → bcF ((nI x ||| nI x >>> (1 &&& 31)) &&& 1365) = nI (dz 6 x) := fun n k h1 h2 => by
    have := tbC_at k (x := x - 1024 * n) (by omega)
    rw [show 1024 * n + (x - 1024 * n) = x by omega] at this
    exact this
  by_cases h1 : x < 1024
  · exact key 0 tbC_0 (by omega) (by omega)
  by_cases h2 : x < 2048
  · exact key 1 tbC_1 (by omega) (by omega)
  by_cases h3 : x < 3072
  · exact key 2 tbC_2 (by omega) (by omega)
  exact key 3 tbC_3 (by omega) (by omega)
theorem nI_xor {a b : Nat} (ha : a < 4096) (hb : b < 4096) : nI a ^^^ nI b = nI (a ^^^ b) := by
  refine Int32.toBitVec_inj.mp ?_
  refine BitVec.eq_of_toNat_eq ?_
  have h1 : (nI a).toBitVec = BitVec.ofNat 32 a := rfl
  have h2 : (nI b).toBitVec = BitVec.ofNat 32 b := rfl
  have h3 : (nI (a ^^^ b)).toBitVec = BitVec.ofNat 32 (a ^^^ b) := rfl
  have h4 : a ^^^ b < 2 ^ 12 := Nat.xor_lt_two_pow (by omega) (by omega)
  rw [Int32.toBitVec_xor, h1, h2, h3, BitVec.toNat_xor, BitVec.toNat_ofNat, BitVec.toNat_ofNat, BitVec.toNat_ofNat, Nat.mod_eq_of_lt (by omega), Nat.mod_eq_of_lt (by omega), Nat.mod_eq_of_lt (by omega)]
theorem uV_df {w w' : List Int32} (h1 : w.all isNt = true) (h2 : w'.all isNt = true) (l1 : w.length ≤ 6) (l2 : w.length = w'.length) : uV (codeS w) (codeS w') = nI (df w w') := by
  have a1 : codeS w = nI (cnS w) := codeS_n w 0 0 h1 (by decide) (by omega)
  have a2 : codeS w' = nI (cnS w') := codeS_n w' 0 0 h2 (by decide) (by omega)
  have b1 : cnS w < 4 ^ (0 + w.length) := cnS_lt w 0 0 h1 (by decide)
  have b2 : cnS w' < 4 ^ (0 + w'.length) := cnS_lt w' 0 0 h2 (by decide)
  have c1 : 4 ^ (0 + w.length) ≤ 4 ^ 6 := Nat.pow_le_pow_right (by decide) (by omega)
  have c2 : 4 ^ (0 + w'.length) ≤ 4 ^ 6 := Nat.pow_le_pow_right (by decide) (by omega)
  have h4 : cnS w ^^^ cnS w' < 2 ^ 12 := Nat.xor_lt_two_pow (by omega) (by omega)
  have e := dz_fold w w' 0 0 (6 - w.length) l2 h1 h2
  rw [show 6 - w.length + w.length = 6 by omega, show (0 : Nat) ^^^ 0 = 0 from rfl, dz_0, Nat.zero_add] at e
  have e : dz 6 (cnS w ^^^ cnS w') = df w w' := e
  unfold uV
  rw [a1, a2, nI_xor (by omega) (by omega), tb_all (by omega), e]
theorem df_le : ∀ (w w' : List Int32), df w w' ≤ w.length
  | [], _ => Nat.le_refl 0
  | _ :: _, [] => Nat.zero_le _
  | a :: w, b :: w' => by
    have := df_le w w'
    show (if a = b then 0 else 1) + df w w' ≤ w.length + 1
    split <;> omega
theorem df_take : ∀ (w w' : List Int32) (k : Nat), k < w.length → w.length = w'.length → df (w.take (k + 1)) (w'.take (k + 1)) = df (w.take k) (w'.take k) + (if w.getD k 0 = w'.getD k 0 then 0 else 1)
  | [], _, _, h, _ => absurd h (Nat.not_lt_zero _)
  | _ :: _, [], _, _, h => by cases h
  | a :: w, b :: w', 0, _, _ => by
    show (if a = b then 0 else 1) + df (w.take 0) (w'.take 0) = 0 + (if a = b then 0 else 1)
    rw [List.take_zero, List.take_zero]
    show (if a = b then 0 else 1) + 0 = _
    omega
  | a :: w, b :: w', k + 1, h, hl => by
    simp only [List.length_cons] at h hl
    have ih := df_take w w' k (by omega) (by omega)
    show (if a = b then 0 else 1) + df (w.take (k + 1)) (w'.take (k + 1)) = (if a = b then 0 else 1) + df (w.take k) (w'.take k) + (if w.getD k 0 = w'.getD k 0 then 0 else 1)
    rw [ih]
    omega
section HLD
variable {t c n d : Nat} {h h' g : zH} {A : pA} {x y : Int32}
theorem okS_nt {A : pA} {i : Nat} (hI : pI A) (hi : i < cI A) : (A.2.2.1 i).all isNt = true ∧ (A.2.2.1 i).length ≤ 6 := by
  obtain ⟨h1, h2⟩ := hI.2.2.2.2.2.1 i hi
  unfold okSong at h1
  rw [Bool.and_eq_true, Bool.and_eq_true] at h1
  refine ⟨List.all_eq_true.mpr (fun b hb => ?_), of_decide_eq_true h1.2.1⟩
  have a1 := List.all_eq_true.mp h2 b hb
  have a2 := of_decide_eq_true (List.all_eq_true.mp h1.2.2 b hb)
  unfold isLt at a1
  unfold isNt
  simp only [Bool.and_eq_true, decide_eq_true_eq, Int32.le_iff_toInt_le, Int32.lt_iff_toInt_lt] at a1 a2 ⊢
  have k97 : (97 : Int32).toInt = 97 := by decide
  have k122 : (122 : Int32).toInt = 122 := by decide
  have k100 : (100 : Int32).toInt = 100 := by decide
  have e : (b - 97).toInt = b.toInt - 97 := by
    rw [Int32.toInt_sub, k97]
    exact bmod_fit (by omega) (by omega)
  have q : A.1.toInt ≤ 4 := by
    rcases hI.1 with z | z | z | z <;> rw [z] <;> decide
  omega
def apV (A : pA) (i j : Nat) : Int32 := if (A.2.2.1 i).length = (A.2.2.1 j).length then nI (df (A.2.2.1 i) (A.2.2.1 j)) else -2
def apA (A : pA) (x y : Int32) : Int32 := if 0 ≤ x.toInt ∧ x.toInt < (cI A : Int) then (if 0 ≤ y.toInt ∧ y.toInt < (cI A : Int) then apV A x.toInt.toNat y.toInt.toNat else -1) else -1
theorem N_bit : zPa d mJ6_bitCount_0f7a4 [.inl x] h (fun v h' => v = some (.inl (bcF x)) ∧ h' = h) := by
  intro N
  show zPn N none d mJ6_bitCount_0f7a4 (0, [(0, .inl x)], [], h) _
  refine pa_iload_n (pc' := 1) dJ6_bitCount_0f7a4_0 rfl rfl ?_
  refine pa_iload_n (pc' := 2) dJ6_bitCount_0f7a4_1 rfl rfl ?_
  refine pa_iconst (v := 1) (pc' := 3) dJ6_bitCount_0f7a4_2 (by decide) rfl ?_
  refine pa_iushr (pc' := 4) (v := us x 1) dJ6_bitCount_0f7a4_3 rfl rfl ?_
  refine pa_ldcw (pc' := 7) dJ6_bitCount_0f7a4_4 cl_16_265 rfl rfl ?_
  refine pa_iand (pc' := 8) dJ6_bitCount_0f7a4_7 rfl rfl ?_
  refine pa_isub (pc' := 9) (v := bc1 x) dJ6_bitCount_0f7a4_8 rfl rfl ?_
  refine pa_istore_n (pc' := 10) dJ6_bitCount_0f7a4_9 (by decide) rfl rfl ?_
  refine pa_iload_n (pc' := 11) (v := bc1 x) dJ6_bitCount_0f7a4_10 rfl rfl ?_
  refine pa_ldcw (pc' := 14) dJ6_bitCount_0f7a4_11 cl_16_266 rfl rfl ?_
  refine pa_iand (pc' := 15) dJ6_bitCount_0f7a4_14 rfl rfl ?_
  refine pa_iload_n (pc' := 16) (v := bc1 x) dJ6_bitCount_0f7a4_15 rfl rfl ?_
  refine pa_iconst (v := 2) (pc' := 17) dJ6_bitCount_0f7a4_16 (by decide) rfl ?_
  refine pa_iushr (pc' := 18) (v := us (bc1 x) 2) dJ6_bitCount_0f7a4_17 rfl rfl ?_
  refine pa_ldcw (pc' := 21) dJ6_bitCount_0f7a4_18 cl_16_266 rfl rfl ?_
  refine pa_iand (pc' := 22) dJ6_bitCount_0f7a4_21 rfl rfl ?_
  refine pa_iadd (pc' := 23) (v := bc2 (bc1 x)) dJ6_bitCount_0f7a4_22 rfl rfl ?_
  refine pa_istore_n (pc' := 24) dJ6_bitCount_0f7a4_23 (by decide) rfl rfl ?_
  refine pa_iload_n (pc' := 25) (v := bc2 (bc1 x)) dJ6_bitCount_0f7a4_24 rfl rfl ?_
  refine pa_iload_n (pc' := 26) (v := bc2 (bc1 x)) dJ6_bitCount_0f7a4_25 rfl rfl ?_
  refine pa_iconst (v := 4) (pc' := 27) dJ6_bitCount_0f7a4_26 (by decide) rfl ?_
  refine pa_iushr (pc' := 28) (v := us (bc2 (bc1 x)) 4) dJ6_bitCount_0f7a4_27 rfl rfl ?_
  refine pa_iadd (pc' := 29) dJ6_bitCount_0f7a4_28 rfl rfl ?_
  refine pa_ldcw (pc' := 32) dJ6_bitCount_0f7a4_29 cl_16_267 rfl rfl ?_
  refine pa_iand (pc' := 33) (v := bc3 (bc2 (bc1 x))) dJ6_bitCount_0f7a4_32 rfl rfl ?_
  refine pa_istore_n (pc' := 34) dJ6_bitCount_0f7a4_33 (by decide) rfl rfl ?_
  refine pa_iload_n (pc' := 35) (v := bc3 (bc2 (bc1 x))) dJ6_bitCount_0f7a4_34 rfl rfl ?_
  refine pa_iload_n (pc' := 36) (v := bc3 (bc2 (bc1 x))) dJ6_bitCount_0f7a4_35 rfl rfl ?_
  refine pa_bipush (v := 8) (pc' := 38) dJ6_bitCount_0f7a4_36 (by decide) rfl ?_
  refine pa_iushr (pc' := 39) (v := us (bc3 (bc2 (bc1 x))) 8) dJ6_bitCount_0f7a4_38 rfl rfl ?_
  refine pa_iadd (pc' := 40) (v := bc4 (bc3 (bc2 (bc1 x)))) dJ6_bitCount_0f7a4_39 rfl rfl ?_
  refine pa_istore_n (pc' := 41) dJ6_bitCount_0f7a4_40 (by decide) rfl rfl ?_
  refine pa_iload_n (pc' := 42) (v := bc4 (bc3 (bc2 (bc1 x)))) dJ6_bitCount_0f7a4_41 rfl rfl ?_
  refine pa_iload_n (pc' := 43) (v := bc4 (bc3 (bc2 (bc1 x)))) dJ6_bitCount_0f7a4_42 rfl rfl ?_
  refine pa_bipush (v := 16) (pc' := 45) dJ6_bitCount_0f7a4_43 (by decide) rfl ?_
  refine pa_iushr (pc' := 46) (v := us (bc4 (bc3 (bc2 (bc1 x)))) 16) dJ6_bitCount_0f7a4_45 rfl rfl ?_
  refine pa_iadd (pc' := 47) (v := bc5 (bc4 (bc3 (bc2 (bc1 x))))) dJ6_bitCount_0f7a4_46 rfl rfl ?_
  refine pa_istore_n (pc' := 48) dJ6_bitCount_0f7a4_47 (by decide) rfl rfl ?_
  refine pa_iload_n (pc' := 49) (v := bc5 (bc4 (bc3 (bc2 (bc1 x))))) dJ6_bitCount_0f7a4_48 rfl rfl ?_
  refine pa_bipush (v := 63) (pc' := 51) dJ6_bitCount_0f7a4_49 (by decide) rfl ?_
  refine pa_iand (pc' := 52) (v := bcF x) dJ6_bitCount_0f7a4_51 rfl rfl ?_
  exact pa_iret dJ6_bitCount_0f7a4_52 rfl rfl ⟨rfl, rfl⟩
theorem N_unlike : zPa d mX11_unlikeNotes [.inl x, .inl y] h (fun v h' => v = some (.inl (uV x y)) ∧ h' = h) := by
  intro N
  show zPn N none d mX11_unlikeNotes (0, [(0, .inl x), (1, .inl y)], [], h) _
  refine pa_iload_n (pc' := 1) dX11_unlikeNotes_0 rfl rfl ?_
  refine pa_iload_n (pc' := 2) dX11_unlikeNotes_1 rfl rfl ?_
  refine pa_ixor (pc' := 3) dX11_unlikeNotes_2 rfl rfl ?_
  refine pa_istore_n (pc' := 4) dX11_unlikeNotes_3 (by decide) rfl rfl ?_
  refine pa_iload_n (pc' := 5) (v := x ^^^ y) dX11_unlikeNotes_4 rfl rfl ?_
  refine pa_iload_n (pc' := 6) (v := x ^^^ y) dX11_unlikeNotes_5 rfl rfl ?_
  refine pa_iconst (v := 1) (pc' := 7) dX11_unlikeNotes_6 (by decide) rfl ?_
  refine pa_ishr (pc' := 8) dX11_unlikeNotes_7 rfl rfl ?_
  refine pa_ior (pc' := 9) dX11_unlikeNotes_8 rfl rfl ?_
  refine pa_sipush (v := 1365) (pc' := 12) dX11_unlikeNotes_9 (by decide) rfl ?_
  refine pa_iand (pc' := 13) dX11_unlikeNotes_12 rfl rfl ?_
  refine pa_calls (pc' := 16) (kd := 1) (vs := [.inl (((x ^^^ y) ||| (x ^^^ y) >>> (1 &&& 31)) &&& 1365)]) (rest := []) dX11_unlikeNotes_13 ml_11_411 (.inl rfl) rfl rfl rfl (fun d' _ => N_bit) (fun v g2 hq => ?_)
  obtain ⟨er, eh⟩ := hq
  subst er
  rw [eh]
  exact pa_iret dX11_unlikeNotes_16 rfl rfl ⟨rfl, rfl⟩
theorem N_apartness {i j : Nat} (hA : lPA A c h) (ho : hOK wd h) (h1 : h.1 = hh_487.1) (r92 : h.2.2.2.1 92 0 = some c) (hi : i < cI A) (hj : j < cI A) : zPa d mX7_apartness [.inr (.inr (some 92)), .inl (nI i), .inl (nI j)] h (fun v h' => v = some (.inl (apV A i j)) ∧ h' = h) := by
  intro N
  have s92 : zsh h 92 = some (7, 6) := zsh_by h1 (by decide +kernel)
  have hc : c = 2 ∨ c = 42 := hA.2.1
  have hle := hA.le
  have sl : zsh h (c + 2) = some (14, 7) := zsh_by h1 (by rcases hc with e | e <;> subst e <;> decide +kernel)
  have ss : zsh h (c + 1) = some (14, 7) := zsh_by h1 (by rcases hc with e | e <;> subst e <;> decide +kernel)
  have r10 : h.2.2.2.1 c 10 = some (c + 2) := by
    rcases hc with e | e <;> subst e
    · exact ho.2.2.1 2 10 4 (by decide +kernel)
    · exact ho.2.2.1 42 10 44 (by decide +kernel)
  have r9 : h.2.2.2.1 c 9 = some (c + 1) := by
    rcases hc with e | e <;> subst e
    · exact ho.2.2.1 2 9 3 (by decide +kernel)
    · exact ho.2.2.1 42 9 43 (by decide +kernel)
  have sc := hA.sc h1
  have qi := hA.2.2.2.1.2.2.2.2.2.2.1 i hi
  have qj := hA.2.2.2.1.2.2.2.2.2.2.1 j hj
  have ni := okS_nt hA.1 hi
  have nj := okS_nt hA.1 hj
  show zPn N none d mX7_apartness (0, [(0, .inr (.inr (some 92))), (1, .inl (nI i)), (2, .inl (nI j))], [], h) _
  refine pa_aload_n (pc' := 1) dX7_apartness_0 rfl rfl ?_
  refine pa_getR (pc' := 4) (n := 6) (r := c) dX7_apartness_1 fl_7_28 s92 (by decide) r92 rfl ?_
  refine pa_getR (pc' := 7) (n := 15) (r := c + 2) dX7_apartness_4 fl_7_47 sc (by decide) r10 rfl ?_
  refine pa_iload_n (pc' := 8) dX7_apartness_7 rfl rfl ?_
  refine pa_iald (pc' := 9) (n := 7) dX7_apartness_8 sl rfl (fun _ => ?_)
  rw [nI_clamp (by omega), qi.1]
  refine pa_aload_n (pc' := 10) dX7_apartness_9 rfl rfl ?_
  refine pa_getR (pc' := 13) (n := 6) (r := c) dX7_apartness_10 fl_7_28 s92 (by decide) r92 rfl ?_
  refine pa_getR (pc' := 16) (n := 15) (r := c + 2) dX7_apartness_13 fl_7_47 sc (by decide) r10 rfl ?_
  refine pa_iload_n (pc' := 17) dX7_apartness_16 rfl rfl ?_
  refine pa_iald (pc' := 18) (n := 7) dX7_apartness_17 sl rfl (fun _ => ?_)
  rw [nI_clamp (by omega), qj.1]
  unfold apV
  by_cases z : (A.2.2.1 i).length = (A.2.2.1 j).length
  · rw [if_pos z]
    refine pa_icmp_f (pc' := 21) dX7_apartness_18 (by rw [z]; simp [zcond]) (by decide) rfl ?_
    refine pa_aload_n (pc' := 22) dX7_apartness_21 rfl rfl ?_
    refine pa_getR (pc' := 25) (n := 6) (r := c) dX7_apartness_22 fl_7_28 s92 (by decide) r92 rfl ?_
    refine pa_getR (pc' := 28) (n := 15) (r := c + 1) dX7_apartness_25 fl_7_44 sc (by decide) r9 rfl ?_
    refine pa_iload_n (pc' := 29) dX7_apartness_28 rfl rfl ?_
    refine pa_iald (pc' := 30) (n := 7) dX7_apartness_29 ss rfl (fun _ => ?_)
    rw [nI_clamp (by omega), qi.2]
    refine pa_aload_n (pc' := 31) dX7_apartness_30 rfl rfl ?_
    refine pa_getR (pc' := 34) (n := 6) (r := c) dX7_apartness_31 fl_7_28 s92 (by decide) r92 rfl ?_
    refine pa_getR (pc' := 37) (n := 15) (r := c + 1) dX7_apartness_34 fl_7_44 sc (by decide) r9 rfl ?_
    refine pa_iload_n (pc' := 38) dX7_apartness_37 rfl rfl ?_
    refine pa_iald (pc' := 39) (n := 7) dX7_apartness_38 ss rfl (fun _ => ?_)
    rw [nI_clamp (by omega), qj.2]
    refine pa_calls (pc' := 42) (kd := 3) (vs := [.inl (codeS (A.2.2.1 i)), .inl (codeS (A.2.2.1 j))]) (rest := []) dX7_apartness_39 ml_7_60 (.inr rfl) rfl rfl rfl (fun d' _ => N_unlike) (fun v g2 hq => ?_)
    obtain ⟨er, eh⟩ := hq
    rw [uV_df ni.1 nj.1 ni.2 z] at er
    subst er
    rw [eh]
    show zPn N none d mX7_apartness (42, [(0, .inr (.inr (some 92))), (1, .inl (nI i)), (2, .inl (nI j))], [.inl (nI (df (A.2.2.1 i) (A.2.2.1 j)))], h) _
    refine pa_goto (pc' := 47) dX7_apartness_42 (by decide) ?_
    exact pa_iret dX7_apartness_47 rfl rfl ⟨rfl, rfl⟩
  · rw [if_neg z]
    refine pa_icmp_t (pc' := 45) dX7_apartness_18 (decide_eq_true (fun w => z (by
      have := congrArg Int32.toInt w
      rw [nI_toInt (by omega), nI_toInt (by omega)] at this
      omega))) (by decide) ?_
    refine pa_bipush (v := -2) (pc' := 47) dX7_apartness_45 (by decide) rfl ?_
    exact pa_iret dX7_apartness_47 rfl rfl ⟨rfl, rfl⟩
/-- the songs as the reference keeps them -/
def sgR (A : pA) (h : zH) : Prop := h.1 = hh_487.1 ∧ h.2.2.2.1 196 15 = some 199 ∧ pI A ∧ ∀ i, i < cI A → h.2.1 199 (10 + 7 * i) = nI (A.2.2.1 i).length ∧ ∀ k, k < (A.2.2.1 i).length → h.2.1 199 (10 + 7 * i + 1 + k) = (A.2.2.1 i).getD k 0 - 97
theorem lPA.sg (hA : lPA A c h) (ho : hOK wd h) (h1 : h.1 = hh_487.1) : sgR A h := by
  refine ⟨h1, ho.2.2.1 196 15 199 (by decide +kernel), hA.1, fun i hi => ?_⟩
  rcases hA.2.2.2.2 with ⟨-, b⟩ | ⟨-, -, K⟩
  · rw [b] at hi
    exact absurd hi (Nat.not_lt_zero i)
  · exact K.2.2.2.2.2.2.2.1 i hi
theorem sgR.gd (K : sgR A h) : sgR A (zsI (zsI h 196 0 0) 196 11 0) := ⟨K.1, K.2.1, K.2.2.1, fun i hi => ⟨by rw [zsI_no (by omega), zsI_no (by omega)]; exact (K.2.2.2 i hi).1, fun k hk => by rw [zsI_no (by omega), zsI_no (by omega)]; exact (K.2.2.2 i hi).2 k hk⟩⟩
theorem sub97i {a b : Int32} : a - 97 = b - 97 ↔ a = b := by
  constructor
  · intro e
    have := congrArg (fun z => z + 97) e
    simpa [Int32.sub_add_cancel] using this
  · intro e
    rw [e]
theorem N_apartOf {i j : Nat} (K : sgR A h) (hi : i < cI A) (hj : j < cI A) : zPa d mX12_apartOf [.inr (.inr (some 196)), .inl (nI i), .inl (nI j)] h (fun v h' => v = some (.inl (apV A i j)) ∧ h' = h) := by
  intro N
  obtain ⟨h1, r15, hI, hS⟩ := K
  have s196 := sh_196' h1
  have s199 : zsh h 199 = some (14, 363) := zsh_by h1 (by decide +kernel)
  have bI := hI.2.2.1.1
  have ni := okS_nt hI hi
  have nj := okS_nt hI hj
  have qi := hS i hi
  have qj := hS j hj
  show zPn N none d mX12_apartOf (0, [(0, .inr (.inr (some 196))), (1, .inl (nI i)), (2, .inl (nI j))], [], h) _
  refine pa_aload_n (pc' := 1) dX12_apartOf_0 rfl rfl ?_
  refine pa_iload_n (pc' := 2) dX12_apartOf_1 rfl rfl ?_
  refine pa_callv (pc' := 5) (vs := [.inl (nI i)]) (rest := []) dX12_apartOf_2 ml_12_265 (by decide) rfl rfl rfl (fun d' _ => N_songLong h1 r15 (by omega)) (fun v g2 hq => ?_)
  obtain ⟨er, eh⟩ := hq
  rw [qi.1] at er
  subst er
  rw [eh]
  show zPn N none d mX12_apartOf (5, [(0, .inr (.inr (some 196))), (1, .inl (nI i)), (2, .inl (nI j))], [.inl (nI (A.2.2.1 i).length)], h) _
  refine pa_aload_n (pc' := 6) dX12_apartOf_5 rfl rfl ?_
  refine pa_iload_n (pc' := 7) dX12_apartOf_6 rfl rfl ?_
  refine pa_callv (pc' := 10) (vs := [.inl (nI j)]) (rest := [.inl (nI (A.2.2.1 i).length)]) dX12_apartOf_7 ml_12_265 (by decide) rfl rfl rfl (fun d' _ => N_songLong h1 r15 (by omega)) (fun v g2 hq => ?_)
  obtain ⟨er, eh⟩ := hq
  rw [qj.1] at er
  subst er
  rw [eh]
  show zPn N none d mX12_apartOf (10, [(0, .inr (.inr (some 196))), (1, .inl (nI i)), (2, .inl (nI j))], [.inl (nI (A.2.2.1 j).length), .inl (nI (A.2.2.1 i).length)], h) _
  unfold apV
  by_cases z : (A.2.2.1 i).length = (A.2.2.1 j).length
  · rw [if_pos z]
    refine pa_icmp_t (pc' := 16) dX12_apartOf_10 (by rw [z]; simp [zcond]) (by decide) ?_
    refine pa_iconst (v := nI 0) (pc' := 17) dX12_apartOf_16 (by decide) rfl ?_
    refine pa_istore_n (pc' := 18) dX12_apartOf_17 (by decide) rfl rfl ?_
    refine pa_iconst (v := nI 0) (pc' := 19) dX12_apartOf_18 (by decide) rfl ?_
    refine pa_istore (pc' := 21) dX12_apartOf_19 (by decide) rfl rfl ?_
    have lp : ∀ (N k : Nat) (ls : zL), k ≤ (A.2.2.1 i).length → zget ls 0 = some (.inr (.inr (some 196))) → zget ls 1 = some (.inl (nI i)) → zget ls 2 = some (.inl (nI j)) → zget ls 3 = some (.inl (nI (df ((A.2.2.1 i).take k) ((A.2.2.1 j).take k)))) → zget ls 4 = some (.inl (nI k)) → zPn N none d mX12_apartOf (21, ls, [], h) (fun v h' => v = some (.inl (nI (df (A.2.2.1 i) (A.2.2.1 j)))) ∧ h' = h) := by
      intro N
      induction N with
      | zero => intro k ls _ _ _ _ _ _; exact zPn.zero
      | succ N ih =>
        intro k ls hk hl0 hl1 hl2 hl3 hl4
        refine pa_iload (pc' := 23) dX12_apartOf_21 hl4 rfl ?_
        refine pa_aload_n (pc' := 24) dX12_apartOf_23 hl0 rfl ?_
        refine pa_iload_n (pc' := 25) dX12_apartOf_24 hl1 rfl ?_
        refine pa_callv (pc' := 28) (vs := [.inl (nI i)]) (rest := [.inl (nI k)]) dX12_apartOf_25 ml_12_265 (by decide) rfl rfl rfl (fun d' _ => N_songLong h1 r15 (by omega)) (fun v g2 hq => ?_)
        obtain ⟨er, eh⟩ := hq
        rw [qi.1] at er
        subst er
        rw [eh]
        show zPn (N + 1) none d mX12_apartOf (28, ls, [.inl (nI (A.2.2.1 i).length), .inl (nI k)], h) _
        refine pa_icmp (pc' := 82) (pc2 := 31) dX12_apartOf_28 (by decide) rfl (fun w => ?_) (fun w => ?_)
        · have w := zi_nlt (zk_ge_lt w)
          rw [nI_toInt (by omega), nI_toInt (by omega)] at w
          rw [show k = (A.2.2.1 i).length by omega, List.take_length, z, List.take_length] at hl3
          refine pa_iload_n (pc' := 83) dX12_apartOf_82 hl3 rfl ?_
          exact pa_iret dX12_apartOf_83 rfl rfl ⟨rfl, rfl⟩
        · have w := zi_lt (zk_ge_lt w)
          rw [nI_toInt (by omega), nI_toInt (by omega)] at w
          refine pa_iload_n (pc' := 32) dX12_apartOf_31 hl3 rfl ?_
          refine pa_aload_n (pc' := 33) dX12_apartOf_32 hl0 rfl ?_
          refine pa_getR (pc' := 36) (n := 39) (r := 199) dX12_apartOf_33 fl_12_20 s196 (by decide) r15 rfl ?_
          refine pa_bipush (v := nI 10) (pc' := 38) dX12_apartOf_36 (by decide) rfl ?_
          refine pa_bipush (v := nI 7) (pc' := 40) dX12_apartOf_38 (by decide) rfl ?_
          refine pa_iload_n (pc' := 41) dX12_apartOf_40 hl1 rfl ?_
          refine pa_imul (pc' := 42) (v := nI (7 * i)) dX12_apartOf_41 (nI_mul 7 i) rfl ?_
          refine pa_iadd (pc' := 43) (v := nI (10 + 7 * i)) dX12_apartOf_42 (nI_add 10 (7 * i)) rfl ?_
          refine pa_iconst (v := nI 1) (pc' := 44) dX12_apartOf_43 (by decide) rfl ?_
          refine pa_iadd (pc' := 45) (v := nI (10 + 7 * i + 1)) dX12_apartOf_44 (nI_add _ _) rfl ?_
          refine pa_iload (pc' := 47) dX12_apartOf_45 hl4 rfl ?_
          refine pa_iadd (pc' := 48) (v := nI (10 + 7 * i + 1 + k)) dX12_apartOf_47 (nI_add _ _) rfl ?_
          refine pa_iald (pc' := 49) (n := 363) dX12_apartOf_48 s199 rfl (fun _ => ?_)
          rw [nI_clamp (by omega), qi.2 k (by omega)]
          refine pa_aload_n (pc' := 50) dX12_apartOf_49 hl0 rfl ?_
          refine pa_getR (pc' := 53) (n := 39) (r := 199) dX12_apartOf_50 fl_12_20 s196 (by decide) r15 rfl ?_
          refine pa_bipush (v := nI 10) (pc' := 55) dX12_apartOf_53 (by decide) rfl ?_
          refine pa_bipush (v := nI 7) (pc' := 57) dX12_apartOf_55 (by decide) rfl ?_
          refine pa_iload_n (pc' := 58) dX12_apartOf_57 hl2 rfl ?_
          refine pa_imul (pc' := 59) (v := nI (7 * j)) dX12_apartOf_58 (nI_mul 7 j) rfl ?_
          refine pa_iadd (pc' := 60) (v := nI (10 + 7 * j)) dX12_apartOf_59 (nI_add 10 (7 * j)) rfl ?_
          refine pa_iconst (v := nI 1) (pc' := 61) dX12_apartOf_60 (by decide) rfl ?_
          refine pa_iadd (pc' := 62) (v := nI (10 + 7 * j + 1)) dX12_apartOf_61 (nI_add _ _) rfl ?_
          refine pa_iload (pc' := 64) dX12_apartOf_62 hl4 rfl ?_
          refine pa_iadd (pc' := 65) (v := nI (10 + 7 * j + 1 + k)) dX12_apartOf_64 (nI_add _ _) rfl ?_
          refine pa_iald (pc' := 66) (n := 363) dX12_apartOf_65 s199 rfl (fun _ => ?_)
          rw [nI_clamp (by omega), qj.2 k (by omega)]
          have st := df_take (A.2.2.1 i) (A.2.2.1 j) k (by omega) z
          have go : ∀ e : Nat, df ((A.2.2.1 i).take (k + 1)) ((A.2.2.1 j).take (k + 1)) = df ((A.2.2.1 i).take k) ((A.2.2.1 j).take k) + e → zPn (N + 1) none d mX12_apartOf (74, ls, [.inl (nI e), .inl (nI (df ((A.2.2.1 i).take k) ((A.2.2.1 j).take k)))], h) (fun v h' => v = some (.inl (nI (df (A.2.2.1 i) (A.2.2.1 j)))) ∧ h' = h) := fun e he => by
            refine pa_iadd (pc' := 75) (v := nI (df ((A.2.2.1 i).take k) ((A.2.2.1 j).take k) + e)) dX12_apartOf_74 (nI_add _ _) rfl ?_
            rw [← he]
            refine pa_istore_n (pc' := 76) dX12_apartOf_75 (by decide) rfl rfl ?_
            refine pa_iinc (pc' := 79) (v := nI (k + 1)) dX12_apartOf_76 (zget_s1 hl4 (by decide) (by simp [zcat])) (by decide) (nI_add k 1) rfl rfl ?_
            refine pa_gotos (pc' := 21) dX12_apartOf_79 (by decide) ?_
            exact ih (k + 1) _ (by omega) (zget_s1 (zget_s1 hl0 (by decide) (by simp [zcat])) (by decide) (by simp [zcat])) (zget_s1 (zget_s1 hl1 (by decide) (by simp [zcat])) (by decide) (by simp [zcat])) (zget_s1 (zget_s1 hl2 (by decide) (by simp [zcat])) (by decide) (by simp [zcat])) (zget_s1 zget_s1e (by decide) (by simp [zcat])) zget_s1e
          by_cases q : (A.2.2.1 i).getD k 0 = (A.2.2.1 j).getD k 0
          · rw [if_pos q] at st
            refine pa_icmp_f (pc' := 69) dX12_apartOf_66 (by rw [q]; simp [zcond]) (by decide) rfl ?_
            refine pa_iconst (v := nI 0) (pc' := 70) dX12_apartOf_69 (by decide) rfl ?_
            refine pa_goto (pc' := 74) dX12_apartOf_70 (by decide) ?_
            exact go 0 st
          · rw [if_neg q] at st
            refine pa_icmp_t (pc' := 73) dX12_apartOf_66 (decide_eq_true (fun w => q (sub97i.mp w))) (by decide) ?_
            refine pa_iconst (v := nI 1) (pc' := 74) dX12_apartOf_73 (by decide) rfl ?_
            exact go 1 st
    exact lp N 0 _ (Nat.zero_le _) rfl rfl rfl rfl rfl
  · rw [if_neg z]
    refine pa_icmp_f (pc' := 13) dX12_apartOf_10 (decide_eq_false (fun w => z (by
      have := congrArg Int32.toInt w
      rw [nI_toInt (by omega), nI_toInt (by omega)] at this
      omega))) (by decide) rfl ?_
    refine pa_bipush (v := -2) (pc' := 15) dX12_apartOf_13 (by decide) rfl ?_
    exact pa_iret dX12_apartOf_15 rfl rfl ⟨rfl, rfl⟩
theorem N_apart11 (hA : lPA A c h) (ho : hOK wd h) (h1 : h.1 = hh_487.1) (r92 : h.2.2.2.1 92 0 = some c) : zPa d mX11_apart [.inr (.inr (some 0)), .inl x, .inl y] h (fun v _ => v = some (.inl (apA A x y))) := by
  intro N
  have s0 : zsh h 0 = some (11, 16) := zsh_by h1 (by decide +kernel)
  have r7 : h.2.2.2.1 0 7 = some 92 := ho.2.2.1 0 7 92 (by decide +kernel)
  have e32 : apA A x y = -1 → zPn N none d mX11_apart (32, [(0, .inr (.inr (some 0))), (1, .inl x), (2, .inl y)], [], h) (fun v _ => v = some (.inl (apA A x y))) := fun e => by
    rw [e]
    refine pa_aload_n (pc' := 33) dX11_apart_32 rfl rfl ?_
    refine pa_iconst (v := 1) (pc' := 34) dX11_apart_33 (by decide) rfl ?_
    refine pa_callv (pc' := 37) (vs := [.inl 1]) (rest := []) dX11_apart_34 ml_11_98 (by decide) rfl rfl rfl (fun d' _ => c_ref s0) (fun v g3 hq => ?_)
    obtain ⟨er, -⟩ := hq
    subst er
    exact pa_iret dX11_apart_37 rfl rfl rfl
  show zPn N none d mX11_apart (0, [(0, .inr (.inr (some 0))), (1, .inl x), (2, .inl y)], [], h) _
  refine pa_aload_n (pc' := 1) dX11_apart_0 rfl rfl ?_
  refine pa_iload_n (pc' := 2) dX11_apart_1 rfl rfl ?_
  refine pa_callv (pc' := 5) (vs := [.inl x]) (rest := []) dX11_apart_2 ml_11_174 (by decide) rfl rfl rfl (fun d' _ => N_isI11 hA h1) (fun v g2 hq => ?_)
  obtain ⟨er, eh⟩ := hq
  subst er
  rw [eh]
  by_cases z : 0 ≤ x.toInt ∧ x.toInt < (cI A : Int)
  · rw [if_pos z]
    show zPn N none d mX11_apart (5, [(0, .inr (.inr (some 0))), (1, .inl x), (2, .inl y)], [.inl 1], h) _
    refine pa_if_f (pc' := 8) dX11_apart_5 (by decide) (by decide) rfl ?_
    refine pa_aload_n (pc' := 9) dX11_apart_8 rfl rfl ?_
    refine pa_iload_n (pc' := 10) dX11_apart_9 rfl rfl ?_
    refine pa_callv (pc' := 13) (vs := [.inl y]) (rest := []) dX11_apart_10 ml_11_174 (by decide) rfl rfl rfl (fun d' _ => N_isI11 hA h1) (fun v g2 hq => ?_)
    obtain ⟨er, eh⟩ := hq
    subst er
    rw [eh]
    by_cases w : 0 ≤ y.toInt ∧ y.toInt < (cI A : Int)
    · rw [if_pos w]
      have ea : apA A x y = apV A x.toInt.toNat y.toInt.toNat := by unfold apA; rw [if_pos z, if_pos w]
      show zPn N none d mX11_apart (13, [(0, .inr (.inr (some 0))), (1, .inl x), (2, .inl y)], [.inl 1], h) _
      refine pa_if_f (pc' := 16) dX11_apart_13 (by decide) (by decide) rfl ?_
      refine pa_aload_n (pc' := 17) dX11_apart_16 rfl rfl ?_
      refine pa_aload_n (pc' := 18) dX11_apart_17 rfl rfl ?_
      refine pa_getR (pc' := 21) (n := 16) (r := 92) dX11_apart_18 fl_11_51 s0 (by decide) r7 rfl ?_
      refine pa_iload_n (pc' := 22) dX11_apart_21 rfl rfl ?_
      refine pa_iload_n (pc' := 23) dX11_apart_22 rfl rfl ?_
      refine pa_callv (pc' := 26) (vs := [.inl x, .inl y]) (rest := [.inr (.inr (some 0))]) dX11_apart_23 ml_11_248 (by decide) rfl rfl rfl (fun d' _ => by
        have := N_apartness (d := d') (i := x.toInt.toNat) (j := y.toInt.toNat) hA ho h1 r92 (by omega) (by omega)
        rw [← x_nI z.1, ← x_nI w.1] at this
        exact this) (fun v g2 hq => ?_)
      obtain ⟨er, eh⟩ := hq
      rw [← ea] at er
      subst er
      rw [eh]
      show zPn N none d mX11_apart (26, [(0, .inr (.inr (some 0))), (1, .inl x), (2, .inl y)], [.inl (apA A x y), .inr (.inr (some 0))], h) _
      refine pa_callv (pc' := 29) (vs := [.inl (apA A x y)]) (rest := []) dX11_apart_26 ml_11_112 (by decide) rfl rfl rfl (fun d' _ => c_gra s0) (fun v g3 hq => ?_)
      obtain ⟨er, -⟩ := hq
      subst er
      show zPn N none d mX11_apart (29, [(0, .inr (.inr (some 0))), (1, .inl x), (2, .inl y)], [.inl (apA A x y)], g3) _
      refine pa_goto (pc' := 37) dX11_apart_29 (by decide) ?_
      exact pa_iret dX11_apart_37 rfl rfl rfl
    · rw [if_neg w]
      show zPn N none d mX11_apart (13, [(0, .inr (.inr (some 0))), (1, .inl x), (2, .inl y)], [.inl 0], h) _
      refine pa_if_t (pc' := 32) dX11_apart_13 (by decide) (by decide) ?_
      exact e32 (by unfold apA; rw [if_pos z, if_neg w])
  · rw [if_neg z]
    show zPn N none d mX11_apart (5, [(0, .inr (.inr (some 0))), (1, .inl x), (2, .inl y)], [.inl 0], h) _
    refine pa_if_t (pc' := 32) dX11_apart_5 (by decide) (by decide) ?_
    exact e32 (by unfold apA; rw [if_neg z])
theorem N_apart12 (hA : lPA A c h) (ho : hOK wd h) (h1 : h.1 = hh_487.1) : zPa d mX12_apart [.inr (.inr (some 196)), .inl x, .inl y] h (fun v _ => v = some (.inl (apA A x y))) := by
  intro N
  have s196 := sh_196' h1
  have K := (hA.sg ho h1).gd
  show zPn N none d mX12_apart (0, [(0, .inr (.inr (some 196))), (1, .inl x), (2, .inl y)], [], h) _
  refine pa_aload_n (pc' := 1) dX12_apart_0 rfl rfl ?_
  refine pa_callv (pc' := 4) (vs := []) (rest := []) dX12_apart_1 ml_12_167 (by decide) rfl rfl rfl (fun d' _ => m_good s196) (fun v g hq => ?_)
  obtain ⟨er, eg⟩ := hq
  subst er
  have hB : lPA A c g := by rw [eg]; exact hA.gd
  have K : sgR A g := by rw [eg]; exact K
  have g1 := K.1
  have r15 := K.2.1
  have s196 := sh_196' g1
  have e29 : apA A x y = -1 → zPn N none d mX12_apart (29, [(0, .inr (.inr (some 196))), (1, .inl x), (2, .inl y)], [], g) (fun v _ => v = some (.inl (apA A x y))) := fun e => by
    rw [e]
    refine pa_aload_n (pc' := 30) dX12_apart_29 rfl rfl ?_
    refine pa_iconst (v := 1) (pc' := 31) dX12_apart_30 (by decide) rfl ?_
    refine pa_callv (pc' := 34) (vs := [.inl 1]) (rest := []) dX12_apart_31 ml_12_170 (by decide) rfl rfl rfl (fun d' _ => m_no s196) (fun v g3 hq => ?_)
    obtain ⟨er, -⟩ := hq
    subst er
    exact pa_iret dX12_apart_34 rfl rfl rfl
  show zPn N none d mX12_apart (4, [(0, .inr (.inr (some 196))), (1, .inl x), (2, .inl y)], [], g) _
  refine pa_aload_n (pc' := 5) dX12_apart_4 rfl rfl ?_
  refine pa_iload_n (pc' := 6) dX12_apart_5 rfl rfl ?_
  refine pa_callv (pc' := 9) (vs := [.inl x]) (rest := []) dX12_apart_6 ml_12_277 (by decide) rfl rfl rfl (fun d' _ => N_isI12 hB r15 g1) (fun v g2 hq => ?_)
  obtain ⟨er, eh⟩ := hq
  subst er
  rw [eh]
  by_cases z : 0 ≤ x.toInt ∧ x.toInt < (cI A : Int)
  · rw [if_pos z]
    show zPn N none d mX12_apart (9, [(0, .inr (.inr (some 196))), (1, .inl x), (2, .inl y)], [.inl 1], g) _
    refine pa_if_f (pc' := 12) dX12_apart_9 (by decide) (by decide) rfl ?_
    refine pa_aload_n (pc' := 13) dX12_apart_12 rfl rfl ?_
    refine pa_iload_n (pc' := 14) dX12_apart_13 rfl rfl ?_
    refine pa_callv (pc' := 17) (vs := [.inl y]) (rest := []) dX12_apart_14 ml_12_277 (by decide) rfl rfl rfl (fun d' _ => N_isI12 hB r15 g1) (fun v g2 hq => ?_)
    obtain ⟨er, eh⟩ := hq
    subst er
    rw [eh]
    by_cases w : 0 ≤ y.toInt ∧ y.toInt < (cI A : Int)
    · rw [if_pos w]
      have ea : apA A x y = apV A x.toInt.toNat y.toInt.toNat := by unfold apA; rw [if_pos z, if_pos w]
      show zPn N none d mX12_apart (17, [(0, .inr (.inr (some 196))), (1, .inl x), (2, .inl y)], [.inl 1], g) _
      refine pa_if_f (pc' := 20) dX12_apart_17 (by decide) (by decide) rfl ?_
      refine pa_aload_n (pc' := 21) dX12_apart_20 rfl rfl ?_
      refine pa_iload_n (pc' := 22) dX12_apart_21 rfl rfl ?_
      refine pa_iload_n (pc' := 23) dX12_apart_22 rfl rfl ?_
      refine pa_callv (pc' := 26) (vs := [.inl x, .inl y]) (rest := []) dX12_apart_23 ml_12_312 (by decide) rfl rfl rfl (fun d' _ => by
        have := N_apartOf (d := d') (i := x.toInt.toNat) (j := y.toInt.toNat) K (by omega) (by omega)
        rw [← x_nI z.1, ← x_nI w.1] at this
        exact this) (fun v g2 hq => ?_)
      obtain ⟨er, eh⟩ := hq
      rw [← ea] at er
      subst er
      rw [eh]
      show zPn N none d mX12_apart (26, [(0, .inr (.inr (some 196))), (1, .inl x), (2, .inl y)], [.inl (apA A x y)], g) _
      refine pa_goto (pc' := 34) dX12_apart_26 (by decide) ?_
      exact pa_iret dX12_apart_34 rfl rfl rfl
    · rw [if_neg w]
      show zPn N none d mX12_apart (17, [(0, .inr (.inr (some 196))), (1, .inl x), (2, .inl y)], [.inl 0], g) _
      refine pa_if_t (pc' := 29) dX12_apart_17 (by decide) (by decide) ?_
      exact e29 (by unfold apA; rw [if_pos z, if_neg w])
  · rw [if_neg z]
    show zPn N none d mX12_apart (9, [(0, .inr (.inr (some 196))), (1, .inl x), (2, .inl y)], [.inl 0], g) _
    refine pa_if_t (pc' := 29) dX12_apart_9 (by decide) (by decide) ?_
    exact e29 (by unfold apA; rw [if_neg z])
/-- songs' post is the class's -/
theorem lV92 {t : Nat} (hi : lInv t h) (hA : lPA A c h) : h.2.2.2.1 92 0 = some c := by
  rcases hi.2.1 with hv | hv
  · rw [hv ((92, 0), 2) (by decide), ← hA.2.2.1, hv ((0, 3), 2) (by decide)]
  · rw [hv ((92, 0), 42) (by decide), ← hA.2.2.1, hv ((0, 3), 42) (by decide)]
end HLD
