/-! lines: what stays, what grows -/
section RD2
variable {y : Nat → Int32} {n c d N p m q : Nat} {h h' : zH} {A : pA} {nm : Nat → List Int32} {t : Int32}
theorem sNum_24 {x : Int32} (e : sNum y n 2 4 p = .inr (x, q)) : x = 2 ∨ x = 3 ∨ x = 4 := by
  unfold sNum at e
  split at e
  · split at e
    · next z =>
      have e := Sum.inr.inj e
      have ex : tNum y n p = x := congrArg Prod.fst e
      rw [ex] at z
      have z1 := Int32.le_iff_toInt_le.mp z.1
      have z2 := Int32.le_iff_toInt_le.mp z.2
      have e2 : (2 : Int32).toInt = 2 := by decide
      have e4 : (4 : Int32).toInt = 4 := by decide
      have h : x.toInt = 2 ∨ x.toInt = 3 ∨ x.toInt = 4 := by omega
      rcases h with h | h | h
      · exact .inl (Int32.toInt_inj.mp (h.trans (by decide)))
      · exact .inr (.inl (Int32.toInt_inj.mp (h.trans (by decide))))
      · exact .inr (.inr (Int32.toInt_inj.mp (h.trans (by decide))))
    · cases e
  · cases e
theorem pI.head (hI : pI A) (ht : t = 2 ∨ t = 3 ∨ t = 4) (h0 : A.1 = 0) : pI (t, A.2) := by
  obtain ⟨i1, i2, i3, i4, i5, i6, i7, i8⟩ := hI
  have z := i2 h0
  refine ⟨.inr ht, fun e => ?_, i3, i4, i5, fun i hi => ?_, i7, i8⟩
  · exact z
  · have hi : i < cI A := hi
    rw [z.1] at hi
    exact absurd hi (Nat.not_lt_zero i)
theorem rs.head (hc : cc2 c) (hI : pI A) (h0 : A.1 = 0) (K : rs y n c A nm m p h) : rs y n c (t, A.2) nm m p (zsI h c 0 t) := by
  obtain ⟨k1, k2, k3, k4, k5⟩ := K
  have z := hI.2.1 h0
  have hc1 : c ≠ 1 ∧ c ≠ 82 ∧ c ≠ 84 ∧ c ≠ 85 := by rcases hc with q | q <;> omega
  refine ⟨⟨k1.1, k1.2.1, k1.2.2.1, ?_, ?_, k1.2.2.2.2.2⟩, ?_, k3, ?_, k5.fr (zsI_no (by omega)) (fun j => zsI_no (by omega)) (fun j => zsI_no (by omega)) rfl⟩
  · funext i
    rw [zsI_no (by omega)]
    exact congrFun k1.2.2.2.1 i
  · rw [zsI_no (by omega)]
    exact k1.2.2.2.2.1
  · rw [zsI_no (by omega)]
    exact k2
  · obtain ⟨q0, q4, q5, q6, q7, q8, qs, qw, qp⟩ := k4
    refine ⟨zsI_eq, by rw [zsI_no (by omega)]; exact q4, by rw [zsI_no (by omega)]; exact q5, by rw [zsI_no (by omega)]; exact q6, by rw [zsI_no (by omega)]; exact q7, by rw [zsI_no (by omega)]; exact q8, fun i hi => ?_, fun i hi => ?_, fun i hi => ?_⟩
    · have hi : i < cI A := hi
      omega
    · have hi : i < cW A := hi
      omega
    · have hi : i < cS A := hi
      omega
theorem wr_c {j : Nat} (hc : cc2 c) (hj : j = 1 ∨ j = 2 ∨ j = 3) (hI : pI A) : wrOK A c c j := by
  have hc : c = 2 ∨ c = 42 := hc
  exact ⟨by omega, by omega, fun _ => hj, fun z => by omega, fun z => by omega, fun k _ => by omega, fun k _ => by omega⟩
theorem wr_b {j : Nat} (hc : cc2 c) (hB : cB A < 8) (hI : pI A) : wrOK A c (c + 24 + cB A) j := by
  obtain ⟨b1, b2, b3, b4, b5⟩ := hI.2.2.1
  have hc : c = 2 ∨ c = 42 := hc
  exact ⟨by omega, by omega, fun z => by omega, fun z => by omega, fun z => by omega, fun k hk => by omega, fun k _ => by omega⟩
theorem wr_h {j : Nat} (hc : cc2 c) (hH : cH A < 5) (hI : pI A) : wrOK A c (c + 19 + cH A) j := by
  obtain ⟨b1, b2, b3, b4, b5⟩ := hI.2.2.1
  have hc : c = 2 ∨ c = 42 := hc
  exact ⟨by omega, by omega, fun z => by omega, fun z => by omega, fun z => by omega, fun k hk => by omega, fun k _ => by omega⟩
theorem wr_w {j : Nat} (hc : cc2 c) (hW : cW A < 12) (hI : pI A) : wrOK A c (c + 7 + cW A) j := by
  obtain ⟨b1, b2, b3, b4, b5⟩ := hI.2.2.1
  have hc : c = 2 ∨ c = 42 := hc
  exact ⟨by omega, by omega, fun z => by omega, fun z => by omega, fun z => by omega, fun k hk => by omega, fun k _ => by omega⟩
theorem wr_s {j : Nat} (hc : cc2 c) (hS : cS A < 8) (hI : pI A) : wrOK A c (c + 32 + cS A) j := by
  obtain ⟨b1, b2, b3, b4, b5⟩ := hI.2.2.1
  have hc : c = 2 ∨ c = 42 := hc
  exact ⟨by omega, by omega, fun z => by omega, fun z => by omega, fun z => by omega, fun k hk => by omega, fun k _ => by omega⟩
theorem pI.free {i : Nat} (hI : pI A) (hi : i < 20) (ho : ¬ occ A i) : A.2.1 i = [] := by
  cases e : A.2.1 i with
  | nil => rfl
  | cons a b => exact absurd ((hI.2.2.2.1 i hi).mp (by rw [e]; exact List.cons_ne_nil a b)) ho
theorem sNew_w (hp : p ≤ n) (e : sNew y n nm p = .inr q) : tW y n p ≠ [] := by
  unfold sNew at e
  split at e
  · next z => exact (tW_ok hp (isNb_n.mp z).1).2.2
  · cases e
theorem rx.zw {a j : Nat} {v : Int32} (hx : rx y n c h) (h1 : a ≠ 1) (h2 : a ≠ 82) : rx y n c (zsI h a j v) := by
  obtain ⟨a1, b, c1, e, f, g⟩ := hx
  refine ⟨a1, b, c1, ?_, ?_, g⟩
  · funext i
    rw [zsI_no (by omega), e]
  · rw [zsI_no (by omega)]
    exact f
/-- a count of the post grows -/
theorem rs.cnt {A' : pA} {k : Nat} {v : Int32} (hc : cc2 c) (hk : 4 ≤ k) (K : rs y n c A nm m p h) (e0 : A'.1 = A.1) (r : rcC A c h → rcC A' c (zsI h c k v)) : rs y n c A' nm m p (zsI h c k v) := by
  obtain ⟨k1, k2, k3, k4, k5⟩ := K
  have hc1 : c ≠ 1 ∧ c ≠ 82 ∧ c ≠ 84 ∧ c ≠ 85 := by rcases hc with q | q <;> omega
  exact ⟨k1.zw hc1.1 hc1.2.1, by rw [zsI_no (by omega)]; exact k2, k3, r k4, k5.fr (zsI_no (by omega)) (fun j => zsI_no (by omega)) (fun j => zsI_no (by omega)) rfl⟩
theorem rs.boxed (hc : cc2 c) (hI : pI A) (K : rs y n c A nm m p h) : rs y n c (A.1, nm, A.2.2.1, A.2.2.2.1, A.2.2.2.2.1, cI A, cW A, cH A, cB A + 1, cS A) nm m p (zsI h c 7 (nI (cB A + 1))) := by
  refine K.cnt hc (by decide) rfl (fun ⟨q0, q4, q5, q6, q7, q8, qs, qw, qp⟩ => ?_)
  refine ⟨by rw [zsI_no (by omega)]; exact q0, by rw [zsI_no (by omega)]; exact q4, by rw [zsI_no (by omega)]; exact q5, by rw [zsI_no (by omega)]; exact q6, zsI_eq, by rw [zsI_no (by omega)]; exact q8, fun i hi => ?_, fun i hi => ?_, fun i hi => ?_⟩
  · rw [zsI_no (by omega), zsI_no (by omega)]; exact qs i hi
  · rw [zsI_no (by omega), zsI_no (by omega)]; exact qw i hi
  · rw [zsI_no (by omega), zsI_no (by omega)]; exact qp i hi
theorem rs.whaled (hc : cc2 c) (hI : pI A) (K : rs y n c A nm m p h) : rs y n c (A.1, nm, A.2.2.1, A.2.2.2.1, A.2.2.2.2.1, cI A, cW A, cH A + 1, cB A, cS A) nm m p (zsI h c 6 (nI (cH A + 1))) := by
  refine K.cnt hc (by decide) rfl (fun ⟨q0, q4, q5, q6, q7, q8, qs, qw, qp⟩ => ?_)
  refine ⟨by rw [zsI_no (by omega)]; exact q0, by rw [zsI_no (by omega)]; exact q4, by rw [zsI_no (by omega)]; exact q5, zsI_eq, by rw [zsI_no (by omega)]; exact q7, by rw [zsI_no (by omega)]; exact q8, fun i hi => ?_, fun i hi => ?_, fun i hi => ?_⟩
  · rw [zsI_no (by omega), zsI_no (by omega)]; exact qs i hi
  · rw [zsI_no (by omega), zsI_no (by omega)]; exact qw i hi
  · rw [zsI_no (by omega), zsI_no (by omega)]; exact qp i hi
theorem pI.boxed (hI : pI A) (h1 : A.1 ≠ 0) (hB : cB A < 8) {w : List Int32} (hn : nmI (upA A.2.1 (12 + cB A) w)) (hw : w ≠ []) : pI (A.1, upA A.2.1 (12 + cB A) w, A.2.2.1, A.2.2.2.1, A.2.2.2.2.1, cI A, cW A, cH A, cB A + 1, cS A) := by
  obtain ⟨i1, i2, ⟨b1, b2, b3, b4, b5⟩, i4, i5, i6, i7, i8⟩ := hI
  refine ⟨i1, fun e => absurd e h1, ⟨b1, b2, b3, by show cB A + 1 ≤ 8; omega, b5⟩, fun i hi => ?_, hn, i6, i7, i8⟩
  show upA A.2.1 (12 + cB A) w i ≠ [] ↔ (i < cI A ∨ (7 ≤ i ∧ i < 7 + cH A) ∨ (12 ≤ i ∧ i < 12 + (cB A + 1)))
  rw [upA_at]
  have := i4 i hi
  unfold occ at this
  split
  · next z => exact ⟨fun _ => by omega, fun _ => hw⟩
  · next z => rw [this]; omega
theorem pI.whaled (hI : pI A) (h1 : A.1 ≠ 0) (hH : cH A < 5) {w : List Int32} (hn : nmI (upA A.2.1 (7 + cH A) w)) (hw : w ≠ []) : pI (A.1, upA A.2.1 (7 + cH A) w, A.2.2.1, A.2.2.2.1, A.2.2.2.2.1, cI A, cW A, cH A + 1, cB A, cS A) := by
  obtain ⟨i1, i2, ⟨b1, b2, b3, b4, b5⟩, i4, i5, i6, i7, i8⟩ := hI
  refine ⟨i1, fun e => absurd e h1, ⟨b1, b2, by show cH A + 1 ≤ 5; omega, b4, b5⟩, fun i hi => ?_, hn, i6, i7, i8⟩
  show upA A.2.1 (7 + cH A) w i ≠ [] ↔ (i < cI A ∨ (7 ≤ i ∧ i < 7 + (cH A + 1)) ∨ (12 ≤ i ∧ i < 12 + cB A))
  rw [upA_at]
  have := i4 i hi
  unfold occ at this
  split
  · next z => exact ⟨fun _ => by omega, fun _ => hw⟩
  · next z => rw [this]; omega
theorem isKind_w : isKind y n p = true ↔ (wIs y n p [99, 97, 108, 102] ∨ wIs y n p [99, 111, 119] ∨ wIs y n p [98, 117, 108, 108] ∨ wIs y n p [111, 108, 100]) := by
  unfold isKind
  simp only [wIs_w, Bool.and_eq_true, decide_eq_true_eq, List.contains_iff_mem, List.mem_cons, List.not_mem_nil, or_false]
  constructor
  · rintro ⟨a, b | b | b | b⟩
    · exact .inl ⟨a, b⟩
    · exact .inr (.inl ⟨a, b⟩)
    · exact .inr (.inr (.inl ⟨a, b⟩))
    · exact .inr (.inr (.inr ⟨a, b⟩))
  · rintro (⟨a, b⟩ | ⟨a, b⟩ | ⟨a, b⟩ | ⟨a, b⟩)
    · exact ⟨a, .inl b⟩
    · exact ⟨a, .inr (.inl b)⟩
    · exact ⟨a, .inr (.inr (.inl b))⟩
    · exact ⟨a, .inr (.inr (.inr b))⟩
theorem knd_k {x : Int32} (k : knd y n p x) : (x = -2 ∧ isKind y n p = false) ∨ (x ≠ -2 ∧ isKind y n p = true) := by
  rcases k with ⟨e, w⟩ | ⟨e, _, w⟩ | ⟨e, _, _, w⟩ | ⟨e, _, _, _, w⟩ | ⟨e, w1, w2, w3, w4⟩
  · exact .inr ⟨by rw [e]; decide, isKind_w.mpr (.inl w)⟩
  · exact .inr ⟨by rw [e]; decide, isKind_w.mpr (.inr (.inl w))⟩
  · exact .inr ⟨by rw [e]; decide, isKind_w.mpr (.inr (.inr (.inl w)))⟩
  · exact .inr ⟨by rw [e]; decide, isKind_w.mpr (.inr (.inr (.inr w)))⟩
  · refine .inl ⟨e, ?_⟩
    cases z : isKind y n p with
    | false => rfl
    | true =>
      rcases isKind_w.mp z with q | q | q | q
      · exact absurd q w1
      · exact absurd q w2
      · exact absurd q w3
      · exact absurd q w4
theorem isKind_t (e : isKind y n p = true) : tT y n p ≠ 1 := by
  unfold isKind at e
  rw [Bool.and_eq_true, decide_eq_true_eq] at e
  rw [e.1]
  decide
theorem rs.mm {m' : Nat} (K : rs y n c A nm m p h) (e : m = m') : rs y n c A nm m' p h := by rw [← e]; exact K
theorem sOld_6 {x : Nat} (e : sOld y n nm 0 6 p = .inr (x, q)) : x < 7 := by
  unfold sOld at e
  split at e
  · split at e
    · split at e
      · next z =>
        have e := congrArg Prod.fst (Sum.inr.inj e)
        dsimp only at e
        omega
      · cases e
    · cases e
  · cases e
theorem sOld_11 {x : Nat} (e : sOld y n nm 7 11 p = .inr (x, q)) : x < 5 := by
  unfold sOld at e
  split at e
  · split at e
    · split at e
      · next z =>
        have e := congrArg Prod.fst (Sum.inr.inj e)
        dsimp only at e
        omega
      · cases e
    · cases e
  · cases e
theorem rs.wayed {a b : Nat} (hc : cc2 c) (hI : pI A) (K : rs y n c A nm m p h) (va : h.2.1 (c + 7 + cW A) 0 = nI a) (vb : h.2.1 (c + 7 + cW A) 1 = nI b) : rs y n c (A.1, nm, A.2.2.1, upA A.2.2.2.1 (cW A) (a, b), A.2.2.2.2.1, cI A, cW A + 1, cH A, cB A, cS A) nm m p (zsI h c 5 (nI (cW A + 1))) := by
  refine K.cnt hc (by decide) rfl (fun ⟨q0, q4, q5, q6, q7, q8, qs, qw, qp⟩ => ?_)
  refine ⟨by rw [zsI_no (by omega)]; exact q0, by rw [zsI_no (by omega)]; exact q4, zsI_eq, by rw [zsI_no (by omega)]; exact q6, by rw [zsI_no (by omega)]; exact q7, by rw [zsI_no (by omega)]; exact q8, fun i hi => ?_, fun i hi => ?_, fun i hi => ?_⟩
  · rw [zsI_no (by omega), zsI_no (by omega)]; exact qs i hi
  · have hi : i < cW A + 1 := hi
    show (zsI h c 5 _).2.1 (c + 7 + i) 0 = nI (upA A.2.2.2.1 (cW A) (a, b) i).1 ∧ (zsI h c 5 _).2.1 (c + 7 + i) 1 = nI (upA A.2.2.2.1 (cW A) (a, b) i).2
    rw [zsI_no (by omega), zsI_no (by omega), upA_at]
    split
    · next z => subst z; exact ⟨va, vb⟩
    · exact qw i (by omega)
  · rw [zsI_no (by omega), zsI_no (by omega)]; exact qp i hi
theorem pI.wayed {a b : Nat} (hI : pI A) (h1 : A.1 ≠ 0) (hW : cW A < 12) (ha : a < 7) (hb : b < 7) : pI (A.1, A.2.1, A.2.2.1, upA A.2.2.2.1 (cW A) (a, b), A.2.2.2.2.1, cI A, cW A + 1, cH A, cB A, cS A) := by
  obtain ⟨i1, i2, ⟨b1, b2, b3, b4, b5⟩, i4, i5, i6, i7, i8⟩ := hI
  refine ⟨i1, fun e => absurd e h1, ⟨b1, by show cW A + 1 ≤ 12; omega, b3, b4, b5⟩, i4, i5, i6, fun k hk => ?_, i8⟩
  have hk : k < cW A + 1 := hk
  show (upA A.2.2.2.1 (cW A) (a, b) k).1 < 7 ∧ (upA A.2.2.2.1 (cW A) (a, b) k).2 < 7
  rw [upA_at]
  split
  · exact ⟨ha, hb⟩
  · exact i7 k (by omega)
theorem rs.spouted {a : Nat} {b : Int32} (hc : cc2 c) (hI : pI A) (K : rs y n c A nm m p h) (va : h.2.1 (c + 32 + cS A) 0 = nI a) (vb : h.2.1 (c + 32 + cS A) 2 = b) : rs y n c (A.1, nm, A.2.2.1, A.2.2.2.1, upA A.2.2.2.2.1 (cS A) (a, b), cI A, cW A, cH A, cB A, cS A + 1) nm m p (zsI h c 8 (nI (cS A + 1))) := by
  refine K.cnt hc (by decide) rfl (fun ⟨q0, q4, q5, q6, q7, q8, qs, qw, qp⟩ => ?_)
  refine ⟨by rw [zsI_no (by omega)]; exact q0, by rw [zsI_no (by omega)]; exact q4, by rw [zsI_no (by omega)]; exact q5, by rw [zsI_no (by omega)]; exact q6, by rw [zsI_no (by omega)]; exact q7, zsI_eq, fun i hi => ?_, fun i hi => ?_, fun i hi => ?_⟩
  · rw [zsI_no (by omega), zsI_no (by omega)]; exact qs i hi
  · rw [zsI_no (by omega), zsI_no (by omega)]; exact qw i hi
  · have hi : i < cS A + 1 := hi
    show (zsI h c 8 _).2.1 (c + 32 + i) 0 = nI (upA A.2.2.2.2.1 (cS A) (a, b) i).1 ∧ (zsI h c 8 _).2.1 (c + 32 + i) 2 = (upA A.2.2.2.2.1 (cS A) (a, b) i).2
    rw [zsI_no (by omega), zsI_no (by omega), upA_at]
    split
    · next z => subst z; exact ⟨va, vb⟩
    · exact qp i (by omega)
theorem pI.spouted {a : Nat} {b : Int32} (hI : pI A) (h1 : A.1 ≠ 0) (hS : cS A < 8) (ha : a < 5) : pI (A.1, A.2.1, A.2.2.1, A.2.2.2.1, upA A.2.2.2.2.1 (cS A) (a, b), cI A, cW A, cH A, cB A, cS A + 1) := by
  obtain ⟨i1, i2, ⟨b1, b2, b3, b4, b5⟩, i4, i5, i6, i7, i8⟩ := hI
  refine ⟨i1, fun e => absurd e h1, ⟨b1, b2, b3, b4, by show cS A + 1 ≤ 8; omega⟩, i4, i5, i6, i7, fun k hk => ?_⟩
  have hk : k < cS A + 1 := hk
  show (upA A.2.2.2.2.1 (cS A) (a, b) k).1 < 5
  rw [upA_at]
  split
  · exact ha
  · exact i8 k (by omega)
theorem rs.landed {w : List Int32} (hc : cc2 c) (hI : pI A) (hi7 : cI A < 7) (K : rs y n c A nm m p h) : rs y n c (A.1, nm, upA A.2.2.1 (cI A) w, A.2.2.2.1, A.2.2.2.2.1, cI A + 1, cW A, cH A, cB A, cS A) nm m p (zsI (zsI (zsI h (c + 1) (cI A) (codeS w)) (c + 2) (cI A) (nI w.length)) c 4 (nI (cI A + 1))) := by
  obtain ⟨b1, b2, b3, b4, b5⟩ := hI.2.2.1
  have hcc : c = 2 ∨ c = 42 := hc
  have K1 := K.wr (a := c + 1) (j := cI A) (v := codeS w) ⟨by omega, by omega, fun z => by omega, fun _ => Nat.le_refl _, fun z => by omega, fun k hk => by omega, fun k hk => by omega⟩
  have K2 := K1.wr (a := c + 2) (j := cI A) (v := nI w.length) ⟨by omega, by omega, fun z => by omega, fun z => by omega, fun _ => Nat.le_refl _, fun k hk => by omega, fun k hk => by omega⟩
  refine K2.cnt hc (by decide) rfl (fun ⟨q0, q4, q5, q6, q7, q8, qs, qw, qp⟩ => ?_)
  refine ⟨by rw [zsI_no (by omega)]; exact q0, zsI_eq, by rw [zsI_no (by omega)]; exact q5, by rw [zsI_no (by omega)]; exact q6, by rw [zsI_no (by omega)]; exact q7, by rw [zsI_no (by omega)]; exact q8, fun i hi => ?_, fun i hi => ?_, fun i hi => ?_⟩
  · have hi : i < cI A + 1 := hi
    show (zsI _ c 4 _).2.1 (c + 2) i = nI (upA A.2.2.1 (cI A) w i).length ∧ (zsI _ c 4 _).2.1 (c + 1) i = codeS (upA A.2.2.1 (cI A) w i)
    rw [upA_at]
    split
    · next z =>
      subst z
      exact ⟨(zsI_no (by omega)).trans zsI_eq, (zsI_no (by omega)).trans ((zsI_no (by omega)).trans zsI_eq)⟩
    · exact ⟨(zsI_no (by omega)).trans (qs i (by omega)).1, (zsI_no (by omega)).trans (qs i (by omega)).2⟩
  · exact ⟨(zsI_no (by omega)).trans (qw i hi).1, (zsI_no (by omega)).trans (qw i hi).2⟩
  · exact ⟨(zsI_no (by omega)).trans (qp i hi).1, (zsI_no (by omega)).trans (qp i hi).2⟩
theorem pI.landed (hI : pI A) (h1 : A.1 ≠ 0) (hi7 : cI A < 7) {w u : List Int32} (hn : nmI (upA A.2.1 (cI A) w)) (hw : w ≠ []) (hu : okSong A.1 u = true ∧ u.all isLt = true) : pI (A.1, upA A.2.1 (cI A) w, upA A.2.2.1 (cI A) u, A.2.2.2.1, A.2.2.2.2.1, cI A + 1, cW A, cH A, cB A, cS A) := by
  obtain ⟨i1, i2, ⟨b1, b2, b3, b4, b5⟩, i4, i5, i6, i7, i8⟩ := hI
  refine ⟨i1, fun e => absurd e h1, ⟨by show cI A + 1 ≤ 7; omega, b2, b3, b4, b5⟩, fun i hi => ?_, hn, fun i hi => ?_, i7, i8⟩
  · show upA A.2.1 (cI A) w i ≠ [] ↔ (i < cI A + 1 ∨ (7 ≤ i ∧ i < 7 + cH A) ∨ (12 ≤ i ∧ i < 12 + cB A))
    rw [upA_at]
    have := i4 i hi
    unfold occ at this
    split
    · next z => exact ⟨fun _ => by omega, fun _ => hw⟩
    · next z => rw [this]; omega
  · have hi : i < cI A + 1 := hi
    show okSong A.1 (upA A.2.2.1 (cI A) u i) = true ∧ (upA A.2.2.1 (cI A) u i).all isLt = true
    rw [upA_at]
    split
    · exact hu
    · exact i6 i (by omega)
end RD2
