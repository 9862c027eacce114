/-! lines: what stays, what grows -/
section RD2
variable {y : Nat → Int32} {n c d N p m q : Nat} {h h' : zH} {A : pA} {nm : Nat → List Int32} {t : Int32}
theorem sNum_24 {x : Int32} (e : sNum y n 2 4 p = .inr (x, q)) : x = 2 ∨ x = 3 ∨ x = 4 := by
  unfold sNum at e
  split at e
  · split at e
    · next z =>
      have e := Sum.inr.inj e
      have ex : tNum y n p = x := congrArg Prod.fst e
      rw [ex] at z
      have z1 := Int32.le_iff_toInt_le.mp z.1
      have z2 := Int32.le_iff_toInt_le.mp z.2
      have e2 : (2 : Int32).toInt = 2 := by decide
      have e4 : (4 : Int32).toInt = 4 := by decide
      have h : x.toInt = 2 ∨ x.toInt = 3 ∨ x.toInt = 4 := by omega
      rcases h with h | h | h
      · exact .inl (Int32.toInt_inj.mp (h.trans (by decide)))
      · exact .inr (.inl (Int32.toInt_inj.mp (h.trans (by decide))))
      · exact .inr (.inr (Int32.toInt_inj.mp (h.trans (by decide))))
    · cases e
  · cases e
theorem pI.songs {S : Nat → List Int32} (hI : pI A) (e : ∀ i, i < 7 → S i = A.2.2.1 i) : pI (A.1, A.2.1, S, A.2.2.2) := by
  obtain ⟨i1, i2, i3, i4, i5, i6, i7, i8⟩ := hI
  refine ⟨i1, i2, i3, i4, i5, fun i hi => ?_, i7, i8⟩
  have hi : i < cI A := hi
  show okSong A.1 (S i) = true ∧ (S i).all isLt = true
  rw [e i (by omega)]
  exact i6 i hi
theorem xS4 {S : Nat → List Int32} {a b c d i : Nat} {x y z w : Int32} (h : i < 7) : xS (xS (xS (xS S a x) b y) c z) d w i = S i := by rw [upX_lo (by omega), upX_lo (by omega), upX_lo (by omega), upX_lo (by omega)]
theorem xS3 {S : Nat → List Int32} {a b c i : Nat} {x y z : Int32} (h : i < 7) : xS (xS (xS S a x) b y) c z i = S i := by rw [upX_lo (by omega), upX_lo (by omega), upX_lo (by omega)]
theorem xS2 {S : Nat → List Int32} {a b i : Nat} {x y : Int32} (h : i < 7) : xS (xS S a x) b y i = S i := by rw [upX_lo (by omega), upX_lo (by omega)]
theorem xS1 {S : Nat → List Int32} {a i : Nat} {x : Int32} (h : i < 7) : xS S a x i = S i := upX_lo (by omega)
theorem rcC.no3 (k : rcC A c h) (h0 : A.1 = 0) (s : Nat) (h1 : 1 ≤ s) (h2 : s ≤ 3) : A.2.2.1 (1000 + s) = [] := by
  cases e : A.2.2.1 (1000 + s) with
  | nil => rfl
  | cons a b =>
    rcases (k.2.2.2.2.2.2.2.2.2 s (by rw [e]; exact List.cons_ne_nil a b)).1 with ⟨_, _, z⟩ | z | z | z | z
    · exact absurd h0 z
    all_goals omega
theorem pI.head (hI : pI A) (ht : t = 2 ∨ t = 3 ∨ t = 4) (h0 : A.1 = 0) : pI (t, A.2) := by
  obtain ⟨i1, i2, i3, i4, i5, i6, i7, i8⟩ := hI
  have z := i2 h0
  refine ⟨.inr ht, fun e => ?_, i3, i4, i5, fun i hi => ?_, i7, i8⟩
  · exact z
  · have hi : i < cI A := hi
    rw [z.1] at hi
    exact absurd hi (Nat.not_lt_zero i)
theorem rs.head (hc : cc2 c) (hI : pI A) (h0 : A.1 = 0) (K : rs y n c A nm m p h) : rs y n c (t, A.2) nm m p (zsI h c 0 t) := by
  obtain ⟨k1, k2, k3, k4, k5⟩ := K
  have z := hI.2.1 h0
  have hc1 : c ≠ 1 ∧ c ≠ 82 ∧ c ≠ 84 ∧ c ≠ 85 := by rcases hc with q | q <;> omega
  refine ⟨⟨k1.1, k1.2.1, k1.2.2.1, ?_, ?_, k1.2.2.2.2.2⟩, ?_, k3, ?_, k5.fr (zsI_no (by omega)) (fun j => zsI_no (by omega)) (fun j => zsI_no (by omega)) rfl⟩
  · funext i
    rw [zsI_no (by omega)]
    exact congrFun k1.2.2.2.1 i
  · rw [zsI_no (by omega)]
    exact k1.2.2.2.2.1
  · rw [zsI_no (by omega)]
    exact k2
  · obtain ⟨q0, q4, q5, q6, q7, q8, qs, qw, qp, qx⟩ := k4
    refine ⟨zsI_eq, by rw [zsI_no (by omega)]; exact q4, by rw [zsI_no (by omega)]; exact q5, by rw [zsI_no (by omega)]; exact q6, by rw [zsI_no (by omega)]; exact q7, by rw [zsI_no (by omega)]; exact q8, fun i hi => ?_, fun i hi => ?_, fun i hi => ?_, fun j hj => ?_⟩
    · have hi : i < cI A := hi
      omega
    · have hi : i < cW A := hi
      omega
    · have hi : i < cS A := hi
      omega
    · rcases (qx j hj).1 with ⟨_, _, z2⟩ | z2 | z2 | z2 | z2
      · exact absurd h0 z2
      all_goals omega
/-- the head's numbers -/
theorem rs.headed {u v w : Int32} (hc : cc2 c) (hI : pI A) (h0 : A.1 ≠ 0) (K : rs y n c A nm m p h) (v1 : h.2.1 c 1 = u) (v2 : h.2.1 c 2 = v) (v3 : h.2.1 c 3 = w) : rs y n c (A.1, A.2.1, xS (xS (xS A.2.2.1 1 u) 2 v) 3 w, A.2.2.2) nm m p h := by
  obtain ⟨b1, b2, b3, b4, b5⟩ := hI.2.2.1
  obtain ⟨k1, k2, k3, ⟨q0, q4, q5, q6, q7, q8, qs, qw, qp, qx⟩, k5⟩ := K
  refine ⟨k1, k2, k3, ⟨q0, q4, q5, q6, q7, q8, fun i hi => ?_, qw, qp, ?_⟩, k5⟩
  · have hi : i < cI A := hi
    show h.2.1 (c + 2) i = nI (xS (xS (xS A.2.2.1 1 u) 2 v) 3 w i).length ∧ h.2.1 (c + 1) i = codeS (xS (xS (xS A.2.2.1 1 u) 2 v) 3 w i)
    rw [xS3 (by omega)]
    exact qs i hi
  · exact ((qx.add (i := 1) (.inl ⟨by omega, by omega, h0⟩) v1).add (i := 2) (.inl ⟨by omega, by omega, h0⟩) v2).add (i := 3) (.inl ⟨by omega, by omega, h0⟩) v3
theorem wr_c {j : Nat} (hc : cc2 c) (hj : j = 1 ∨ j = 2 ∨ j = 3) (hI : pI A) (hno : ∀ s, 1 ≤ s → s ≤ 3 → A.2.2.1 (1000 + s) = []) : wrOK A c c j := by
  obtain ⟨b1, b2, b3, b4, b5⟩ := hI.2.2.1
  have hc : c = 2 ∨ c = 42 := hc
  refine ⟨by omega, by omega, fun _ => hj, fun z => by omega, fun z => by omega, fun k _ => by omega, fun k _ => by omega, fun i ht ho z => ?_⟩
  rcases oX_at ho b2 b3 b4 b5 with q | ⟨_, _, q⟩ | ⟨_, _, q⟩ | ⟨_, _, q⟩ | ⟨_, _, q⟩
  · exact ht (hno i q.1 q.2.1)
  all_goals omega
theorem wr_b {j : Nat} (hc : cc2 c) (hB : cB A < 8) (hI : pI A) : wrOK A c (c + 24 + cB A) j := by
  obtain ⟨b1, b2, b3, b4, b5⟩ := hI.2.2.1
  have hc : c = 2 ∨ c = 42 := hc
  refine ⟨by omega, by omega, fun z => by omega, fun z => by omega, fun z => by omega, fun k hk => by omega, fun k _ => by omega, fun i ht ho z => ?_⟩
  rcases oX_at ho b2 b3 b4 b5 with q | ⟨_, _, q⟩ | ⟨_, _, q⟩ | ⟨_, _, q⟩ | ⟨_, _, q⟩ <;> omega
theorem wr_h {j : Nat} (hc : cc2 c) (hH : cH A < 5) (hI : pI A) : wrOK A c (c + 19 + cH A) j := by
  obtain ⟨b1, b2, b3, b4, b5⟩ := hI.2.2.1
  have hc : c = 2 ∨ c = 42 := hc
  refine ⟨by omega, by omega, fun z => by omega, fun z => by omega, fun z => by omega, fun k hk => by omega, fun k _ => by omega, fun i ht ho z => ?_⟩
  rcases oX_at ho b2 b3 b4 b5 with q | ⟨_, _, q⟩ | ⟨_, _, q⟩ | ⟨_, _, q⟩ | ⟨_, _, q⟩ <;> omega
theorem wr_w {j : Nat} (hc : cc2 c) (hW : cW A < 12) (hI : pI A) : wrOK A c (c + 7 + cW A) j := by
  obtain ⟨b1, b2, b3, b4, b5⟩ := hI.2.2.1
  have hc : c = 2 ∨ c = 42 := hc
  refine ⟨by omega, by omega, fun z => by omega, fun z => by omega, fun z => by omega, fun k hk => by omega, fun k _ => by omega, fun i ht ho z => ?_⟩
  rcases oX_at ho b2 b3 b4 b5 with q | ⟨_, _, q⟩ | ⟨_, _, q⟩ | ⟨_, _, q⟩ | ⟨_, _, q⟩ <;> omega
theorem wr_s {j : Nat} (hc : cc2 c) (hS : cS A < 8) (hI : pI A) : wrOK A c (c + 32 + cS A) j := by
  obtain ⟨b1, b2, b3, b4, b5⟩ := hI.2.2.1
  have hc : c = 2 ∨ c = 42 := hc
  refine ⟨by omega, by omega, fun z => by omega, fun z => by omega, fun z => by omega, fun k hk => by omega, fun k _ => by omega, fun i ht ho z => ?_⟩
  rcases oX_at ho b2 b3 b4 b5 with q | ⟨_, _, q⟩ | ⟨_, _, q⟩ | ⟨_, _, q⟩ | ⟨_, _, q⟩ <;> omega
/-- a count is written: no told number lies there -/
theorem rX.cnt {k : Nat} {v : Int32} (hk : 4 ≤ k) (K : rX (okX A) A.2.2.1 c h) (hI : pI A) : rX (okX A) A.2.2.1 c (zsI h c k v) := by
  obtain ⟨b1, b2, b3, b4, b5⟩ := hI.2.2.1
  refine K.wr (fun i _ ho z => ?_)
  rcases oX_at ho b2 b3 b4 b5 with q | ⟨_, _, q⟩ | ⟨_, _, q⟩ | ⟨_, _, q⟩ | ⟨_, _, q⟩ <;> omega
theorem pI.free {i : Nat} (hI : pI A) (hi : i < 20) (ho : ¬ occ A i) : A.2.1 i = [] := by
  cases e : A.2.1 i with
  | nil => rfl
  | cons a b => exact absurd ((hI.2.2.2.1 i hi).mp (by rw [e]; exact List.cons_ne_nil a b)) ho
theorem sNew_w (hp : p ≤ n) (e : sNew y n nm p = .inr q) : tW y n p ≠ [] := by
  unfold sNew at e
  split at e
  · next z => exact (tW_ok hp (isNb_n.mp z).1).2.2
  · cases e
theorem rx.zw {a j : Nat} {v : Int32} (hx : rx y n c h) (h1 : a ≠ 1) (h2 : a ≠ 82) : rx y n c (zsI h a j v) := by
  obtain ⟨a1, b, c1, e, f, g⟩ := hx
  refine ⟨a1, b, c1, ?_, ?_, g⟩
  · funext i
    rw [zsI_no (by omega), e]
  · rw [zsI_no (by omega)]
    exact f
/-- a count of the post grows -/
theorem rs.cnt {A' : pA} {k : Nat} {v : Int32} (hc : cc2 c) (hk : 4 ≤ k) (K : rs y n c A nm m p h) (e0 : A'.1 = A.1) (r : rcC A c h → rcC A' c (zsI h c k v)) : rs y n c A' nm m p (zsI h c k v) := by
  obtain ⟨k1, k2, k3, k4, k5⟩ := K
  have hc1 : c ≠ 1 ∧ c ≠ 82 ∧ c ≠ 84 ∧ c ≠ 85 := by rcases hc with q | q <;> omega
  exact ⟨k1.zw hc1.1 hc1.2.1, by rw [zsI_no (by omega)]; exact k2, k3, r k4, k5.fr (zsI_no (by omega)) (fun j => zsI_no (by omega)) (fun j => zsI_no (by omega)) rfl⟩
theorem rs.boxed {x0 x1 x2 x3 : Int32} (hc : cc2 c) (hI : pI A) (hB : cB A < 8) (K : rs y n c A nm m p h) (v0 : h.2.1 (c + 24 + cB A) 0 = x0) (v1 : h.2.1 (c + 24 + cB A) 1 = x1) (v2 : h.2.1 (c + 24 + cB A) 2 = x2) (v3 : h.2.1 (c + 24 + cB A) 3 = x3) : rs y n c (A.1, nm, xS (xS (xS (xS A.2.2.1 (127 + 4 * cB A) x0) (128 + 4 * cB A) x1) (129 + 4 * cB A) x2) (130 + 4 * cB A) x3, A.2.2.2.1, A.2.2.2.2.1, cI A, cW A, cH A, cB A + 1, cS A) nm m p (zsI h c 7 (nI (cB A + 1))) := by
  obtain ⟨b1, b2, b3, b4, b5⟩ := hI.2.2.1
  refine K.cnt hc (by decide) rfl (fun ⟨q0, q4, q5, q6, q7, q8, qs, qw, qp, qx⟩ => ?_)
  refine ⟨by rw [zsI_no (by omega)]; exact q0, by rw [zsI_no (by omega)]; exact q4, by rw [zsI_no (by omega)]; exact q5, by rw [zsI_no (by omega)]; exact q6, zsI_eq, by rw [zsI_no (by omega)]; exact q8, fun i hi => ?_, fun i hi => ?_, fun i hi => ?_, ?_⟩
  · have hi : i < cI A := hi
    show (zsI h c 7 _).2.1 (c + 2) i = nI (xS (xS (xS (xS A.2.2.1 (127 + 4 * cB A) x0) (128 + 4 * cB A) x1) (129 + 4 * cB A) x2) (130 + 4 * cB A) x3 i).length ∧ (zsI h c 7 _).2.1 (c + 1) i = codeS (xS (xS (xS (xS A.2.2.1 (127 + 4 * cB A) x0) (128 + 4 * cB A) x1) (129 + 4 * cB A) x2) (130 + 4 * cB A) x3 i)
    rw [zsI_no (by omega), zsI_no (by omega), xS4 (by omega)]; exact qs i hi
  · rw [zsI_no (by omega), zsI_no (by omega)]; exact qw i hi
  · rw [zsI_no (by omega), zsI_no (by omega)]; exact qp i hi
  · have g : rX (okX (A.1, nm, A.2.2.1, A.2.2.2.1, A.2.2.2.2.1, cI A, cW A, cH A, cB A + 1, cS A)) A.2.2.1 c (zsI h c 7 (nI (cB A + 1))) := (qx.cnt (k := 7) (v := nI (cB A + 1)) (by decide) hI).mono (fun j ok => ok.up id (Nat.le_refl _) (Nat.le_refl _) (Nat.le_succ _) (Nat.le_refl _))
    have ok : ∀ s, s < 4 → okX (A.1, nm, A.2.2.1, A.2.2.2.1, A.2.2.2.2.1, cI A, cW A, cH A, cB A + 1, cS A) (127 + 4 * cB A + s) := fun s hs => .inr (.inr (.inr (.inl ⟨by omega, by show 127 + 4 * cB A + s < 127 + 4 * (cB A + 1); omega⟩)))
    have va : ∀ s x, s < 4 → h.2.1 (c + 24 + cB A) s = x → (zsI h c 7 (nI (cB A + 1))).2.1 (c + oX (127 + 4 * cB A + s)) (sX (127 + 4 * cB A + s)) = x := fun s x hs e => by
      rw [(oX_box hB hs).1, (oX_box hB hs).2, zsI_no (by omega), ← Nat.add_assoc]
      exact e
    have e1 : 128 + 4 * cB A = 127 + 4 * cB A + 1 := by omega
    have e2 : 129 + 4 * cB A = 127 + 4 * cB A + 2 := by omega
    have e3 : 130 + 4 * cB A = 127 + 4 * cB A + 3 := by omega
    rw [e1, e2, e3]
    exact (((g.add (ok 0 (by decide)) (va 0 x0 (by decide) v0)).add (ok 1 (by decide)) (va 1 x1 (by decide) v1)).add (ok 2 (by decide)) (va 2 x2 (by decide) v2)).add (ok 3 (by decide)) (va 3 x3 (by decide) v3)
theorem rs.whaled {x0 x1 x2 x3 : Int32} (hc : cc2 c) (hI : pI A) (hH : cH A < 5) (K : rs y n c A nm m p h) (v0 : h.2.1 (c + 19 + cH A) 0 = x0) (v1 : h.2.1 (c + 19 + cH A) 1 = x1) (v2 : h.2.1 (c + 19 + cH A) 2 = x2) (v3 : h.2.1 (c + 19 + cH A) 3 = x3) : rs y n c (A.1, nm, xS (xS (xS (xS A.2.2.1 (107 + 4 * cH A) x0) (108 + 4 * cH A) x1) (109 + 4 * cH A) x2) (110 + 4 * cH A) x3, A.2.2.2.1, A.2.2.2.2.1, cI A, cW A, cH A + 1, cB A, cS A) nm m p (zsI h c 6 (nI (cH A + 1))) := by
  obtain ⟨b1, b2, b3, b4, b5⟩ := hI.2.2.1
  refine K.cnt hc (by decide) rfl (fun ⟨q0, q4, q5, q6, q7, q8, qs, qw, qp, qx⟩ => ?_)
  refine ⟨by rw [zsI_no (by omega)]; exact q0, by rw [zsI_no (by omega)]; exact q4, by rw [zsI_no (by omega)]; exact q5, zsI_eq, by rw [zsI_no (by omega)]; exact q7, by rw [zsI_no (by omega)]; exact q8, fun i hi => ?_, fun i hi => ?_, fun i hi => ?_, ?_⟩
  · have hi : i < cI A := hi
    show (zsI h c 6 _).2.1 (c + 2) i = nI (xS (xS (xS (xS A.2.2.1 (107 + 4 * cH A) x0) (108 + 4 * cH A) x1) (109 + 4 * cH A) x2) (110 + 4 * cH A) x3 i).length ∧ (zsI h c 6 _).2.1 (c + 1) i = codeS (xS (xS (xS (xS A.2.2.1 (107 + 4 * cH A) x0) (108 + 4 * cH A) x1) (109 + 4 * cH A) x2) (110 + 4 * cH A) x3 i)
    rw [zsI_no (by omega), zsI_no (by omega), xS4 (by omega)]; exact qs i hi
  · rw [zsI_no (by omega), zsI_no (by omega)]; exact qw i hi
  · rw [zsI_no (by omega), zsI_no (by omega)]; exact qp i hi
  · have g : rX (okX (A.1, nm, A.2.2.1, A.2.2.2.1, A.2.2.2.2.1, cI A, cW A, cH A + 1, cB A, cS A)) A.2.2.1 c (zsI h c 6 (nI (cH A + 1))) := (qx.cnt (k := 6) (v := nI (cH A + 1)) (by decide) hI).mono (fun j ok => ok.up id (Nat.le_refl _) (Nat.le_succ _) (Nat.le_refl _) (Nat.le_refl _))
    have ok : ∀ s, s < 4 → okX (A.1, nm, A.2.2.1, A.2.2.2.1, A.2.2.2.2.1, cI A, cW A, cH A + 1, cB A, cS A) (107 + 4 * cH A + s) := fun s hs => .inr (.inr (.inl ⟨by omega, by show 107 + 4 * cH A + s < 107 + 4 * (cH A + 1); omega⟩))
    have va : ∀ s x, s < 4 → h.2.1 (c + 19 + cH A) s = x → (zsI h c 6 (nI (cH A + 1))).2.1 (c + oX (107 + 4 * cH A + s)) (sX (107 + 4 * cH A + s)) = x := fun s x hs e => by
      rw [(oX_whl hH hs).1, (oX_whl hH hs).2, zsI_no (by omega), ← Nat.add_assoc]
      exact e
    have e1 : 108 + 4 * cH A = 107 + 4 * cH A + 1 := by omega
    have e2 : 109 + 4 * cH A = 107 + 4 * cH A + 2 := by omega
    have e3 : 110 + 4 * cH A = 107 + 4 * cH A + 3 := by omega
    rw [e1, e2, e3]
    exact (((g.add (ok 0 (by decide)) (va 0 x0 (by decide) v0)).add (ok 1 (by decide)) (va 1 x1 (by decide) v1)).add (ok 2 (by decide)) (va 2 x2 (by decide) v2)).add (ok 3 (by decide)) (va 3 x3 (by decide) v3)
theorem pI.boxed {S : Nat → List Int32} (hI : pI A) (hs : ∀ i, i < 7 → S i = A.2.2.1 i) (h1 : A.1 ≠ 0) (hB : cB A < 8) {w : List Int32} (hn : nmI (upA A.2.1 (12 + cB A) w)) (hw : w ≠ []) : pI (A.1, upA A.2.1 (12 + cB A) w, S, A.2.2.2.1, A.2.2.2.2.1, cI A, cW A, cH A, cB A + 1, cS A) := by
  obtain ⟨i1, i2, ⟨b1, b2, b3, b4, b5⟩, i4, i5, i6, i7, i8⟩ := hI
  have i6 : ∀ i, i < cI A → okSong A.1 (S i) = true ∧ (S i).all isLt = true := fun i hi => by
    rw [hs i (by omega)]
    exact i6 i hi
  refine ⟨i1, fun e => absurd e h1, ⟨b1, b2, b3, by show cB A + 1 ≤ 8; omega, b5⟩, fun i hi => ?_, hn, i6, i7, i8⟩
  show upA A.2.1 (12 + cB A) w i ≠ [] ↔ (i < cI A ∨ (7 ≤ i ∧ i < 7 + cH A) ∨ (12 ≤ i ∧ i < 12 + (cB A + 1)))
  rw [upA_at]
  have := i4 i hi
  unfold occ at this
  split
  · next z => exact ⟨fun _ => by omega, fun _ => hw⟩
  · next z => rw [this]; omega
theorem pI.whaled {S : Nat → List Int32} (hI : pI A) (hs : ∀ i, i < 7 → S i = A.2.2.1 i) (h1 : A.1 ≠ 0) (hH : cH A < 5) {w : List Int32} (hn : nmI (upA A.2.1 (7 + cH A) w)) (hw : w ≠ []) : pI (A.1, upA A.2.1 (7 + cH A) w, S, A.2.2.2.1, A.2.2.2.2.1, cI A, cW A, cH A + 1, cB A, cS A) := by
  obtain ⟨i1, i2, ⟨b1, b2, b3, b4, b5⟩, i4, i5, i6, i7, i8⟩ := hI
  have i6 : ∀ i, i < cI A → okSong A.1 (S i) = true ∧ (S i).all isLt = true := fun i hi => by
    rw [hs i (by omega)]
    exact i6 i hi
  refine ⟨i1, fun e => absurd e h1, ⟨b1, b2, by show cH A + 1 ≤ 5; omega, b4, b5⟩, fun i hi => ?_, hn, i6, i7, i8⟩
  show upA A.2.1 (7 + cH A) w i ≠ [] ↔ (i < cI A ∨ (7 ≤ i ∧ i < 7 + (cH A + 1)) ∨ (12 ≤ i ∧ i < 12 + cB A))
  rw [upA_at]
  have := i4 i hi
  unfold occ at this
  split
  · next z => exact ⟨fun _ => by omega, fun _ => hw⟩
  · next z => rw [this]; omega
theorem isKind_w : isKind y n p = true ↔ (wIs y n p [99, 97, 108, 102] ∨ wIs y n p [99, 111, 119] ∨ wIs y n p [98, 117, 108, 108] ∨ wIs y n p [111, 108, 100]) := by
  unfold isKind
  simp only [wIs_w, Bool.and_eq_true, decide_eq_true_eq, List.contains_iff_mem, List.mem_cons, List.not_mem_nil, or_false]
  constructor
  · rintro ⟨a, b | b | b | b⟩
    · exact .inl ⟨a, b⟩
    · exact .inr (.inl ⟨a, b⟩)
    · exact .inr (.inr (.inl ⟨a, b⟩))
    · exact .inr (.inr (.inr ⟨a, b⟩))
  · rintro (⟨a, b⟩ | ⟨a, b⟩ | ⟨a, b⟩ | ⟨a, b⟩)
    · exact ⟨a, .inl b⟩
    · exact ⟨a, .inr (.inl b)⟩
    · exact ⟨a, .inr (.inr (.inl b))⟩
    · exact ⟨a, .inr (.inr (.inr b))⟩
theorem knd_k {x : Int32} (k : knd y n p x) : (x = -2 ∧ isKind y n p = false) ∨ (x ≠ -2 ∧ isKind y n p = true) := by
  rcases k with ⟨e, w⟩ | ⟨e, _, w⟩ | ⟨e, _, _, w⟩ | ⟨e, _, _, _, w⟩ | ⟨e, w1, w2, w3, w4⟩
  · exact .inr ⟨by rw [e]; decide, isKind_w.mpr (.inl w)⟩
  · exact .inr ⟨by rw [e]; decide, isKind_w.mpr (.inr (.inl w))⟩
  · exact .inr ⟨by rw [e]; decide, isKind_w.mpr (.inr (.inr (.inl w)))⟩
  · exact .inr ⟨by rw [e]; decide, isKind_w.mpr (.inr (.inr (.inr w)))⟩
  · refine .inl ⟨e, ?_⟩
    cases z : isKind y n p with
    | false => rfl
    | true =>
      rcases isKind_w.mp z with q | q | q | q
      · exact absurd q w1
      · exact absurd q w2
      · exact absurd q w3
      · exact absurd q w4
theorem knd_v {x : Int32} (k : knd y n p x) (hx : x ≠ -2) : x = kdV y n p := by
  unfold kdV
  rcases k with ⟨e, w⟩ | ⟨e, w1, w⟩ | ⟨e, w1, w2, w⟩ | ⟨e, w1, w2, w3, w⟩ | ⟨e, w⟩
  · rw [if_pos (wIs_w.mp w).2]
    exact e
  · have z := wIs_w.mp w
    rw [if_neg (by rw [z.2]; decide), if_pos z.2]
    exact e
  · have z := wIs_w.mp w
    rw [if_neg (by rw [z.2]; decide), if_neg (by rw [z.2]; decide), if_pos z.2]
    exact e
  · have z := wIs_w.mp w
    rw [if_neg (by rw [z.2]; decide), if_neg (by rw [z.2]; decide), if_neg (by rw [z.2]; decide)]
    exact e
  · exact absurd e hx
theorem isKind_t (e : isKind y n p = true) : tT y n p ≠ 1 := by
  unfold isKind at e
  rw [Bool.and_eq_true, decide_eq_true_eq] at e
  rw [e.1]
  decide
theorem rs.mm {m' : Nat} (K : rs y n c A nm m p h) (e : m = m') : rs y n c A nm m' p h := by rw [← e]; exact K
theorem sOld_6 {x : Nat} (e : sOld y n nm 0 6 p = .inr (x, q)) : x < 7 := by
  unfold sOld at e
  split at e
  · split at e
    · split at e
      · next z =>
        have e := congrArg Prod.fst (Sum.inr.inj e)
        dsimp only at e
        omega
      · cases e
    · cases e
  · cases e
theorem sOld_11 {x : Nat} (e : sOld y n nm 7 11 p = .inr (x, q)) : x < 5 := by
  unfold sOld at e
  split at e
  · split at e
    · split at e
      · next z =>
        have e := congrArg Prod.fst (Sum.inr.inj e)
        dsimp only at e
        omega
      · cases e
    · cases e
  · cases e
theorem rs.wayed {a b : Nat} {u w : Int32} (hc : cc2 c) (hI : pI A) (hW : cW A < 12) (K : rs y n c A nm m p h) (va : h.2.1 (c + 7 + cW A) 0 = nI a) (vb : h.2.1 (c + 7 + cW A) 1 = nI b) (v2 : h.2.1 (c + 7 + cW A) 2 = u) (v3 : h.2.1 (c + 7 + cW A) 3 = w) : rs y n c (A.1, nm, xS (xS A.2.2.1 (61 + 4 * cW A) u) (62 + 4 * cW A) w, upA A.2.2.2.1 (cW A) (a, b), A.2.2.2.2.1, cI A, cW A + 1, cH A, cB A, cS A) nm m p (zsI h c 5 (nI (cW A + 1))) := by
  obtain ⟨b1, b2, b3, b4, b5⟩ := hI.2.2.1
  refine K.cnt hc (by decide) rfl (fun ⟨q0, q4, q5, q6, q7, q8, qs, qw, qp, qx⟩ => ?_)
  refine ⟨by rw [zsI_no (by omega)]; exact q0, by rw [zsI_no (by omega)]; exact q4, zsI_eq, by rw [zsI_no (by omega)]; exact q6, by rw [zsI_no (by omega)]; exact q7, by rw [zsI_no (by omega)]; exact q8, fun i hi => ?_, fun i hi => ?_, fun i hi => ?_, ?_⟩
  · have hi : i < cI A := hi
    show (zsI h c 5 _).2.1 (c + 2) i = nI (xS (xS A.2.2.1 (61 + 4 * cW A) u) (62 + 4 * cW A) w i).length ∧ (zsI h c 5 _).2.1 (c + 1) i = codeS (xS (xS A.2.2.1 (61 + 4 * cW A) u) (62 + 4 * cW A) w i)
    rw [zsI_no (by omega), zsI_no (by omega), xS2 (by omega)]; exact qs i hi
  · have hi : i < cW A + 1 := hi
    show (zsI h c 5 _).2.1 (c + 7 + i) 0 = nI (upA A.2.2.2.1 (cW A) (a, b) i).1 ∧ (zsI h c 5 _).2.1 (c + 7 + i) 1 = nI (upA A.2.2.2.1 (cW A) (a, b) i).2
    rw [zsI_no (by omega), zsI_no (by omega), upA_at]
    split
    · next z => subst z; exact ⟨va, vb⟩
    · exact qw i (by omega)
  · rw [zsI_no (by omega), zsI_no (by omega)]; exact qp i hi
  · have g : rX (okX (A.1, nm, A.2.2.1, A.2.2.2.1, A.2.2.2.2.1, cI A, cW A + 1, cH A, cB A, cS A)) A.2.2.1 c (zsI h c 5 (nI (cW A + 1))) := (qx.cnt (k := 5) (v := nI (cW A + 1)) (by decide) hI).mono (fun j ok => ok.up id (Nat.le_succ _) (Nat.le_refl _) (Nat.le_refl _) (Nat.le_refl _))
    have ok : ∀ s, s < 4 → okX (A.1, nm, A.2.2.1, A.2.2.2.1, A.2.2.2.2.1, cI A, cW A + 1, cH A, cB A, cS A) (59 + 4 * cW A + s) := fun s hs => .inr (.inl ⟨by omega, by show 59 + 4 * cW A + s < 59 + 4 * (cW A + 1); omega⟩)
    have va : ∀ s x, s < 4 → h.2.1 (c + 7 + cW A) s = x → (zsI h c 5 (nI (cW A + 1))).2.1 (c + oX (59 + 4 * cW A + s)) (sX (59 + 4 * cW A + s)) = x := fun s x hs e => by
      rw [(oX_way hW hs).1, (oX_way hW hs).2, zsI_no (by omega), ← Nat.add_assoc]
      exact e
    have e1 : 61 + 4 * cW A = 59 + 4 * cW A + 2 := by omega
    have e2 : 62 + 4 * cW A = 59 + 4 * cW A + 3 := by omega
    rw [e1, e2]
    exact (g.add (ok 2 (by decide)) (va 2 u (by decide) v2)).add (ok 3 (by decide)) (va 3 w (by decide) v3)
theorem pI.wayed {a b : Nat} {S : Nat → List Int32} (hI : pI A) (hs : ∀ i, i < 7 → S i = A.2.2.1 i) (h1 : A.1 ≠ 0) (hW : cW A < 12) (ha : a < 7) (hb : b < 7) : pI (A.1, A.2.1, S, upA A.2.2.2.1 (cW A) (a, b), A.2.2.2.2.1, cI A, cW A + 1, cH A, cB A, cS A) := by
  obtain ⟨i1, i2, ⟨b1, b2, b3, b4, b5⟩, i4, i5, i6, i7, i8⟩ := hI
  have i6 : ∀ i, i < cI A → okSong A.1 (S i) = true ∧ (S i).all isLt = true := fun i hi => by
    rw [hs i (by omega)]
    exact i6 i hi
  refine ⟨i1, fun e => absurd e h1, ⟨b1, by show cW A + 1 ≤ 12; omega, b3, b4, b5⟩, i4, i5, i6, fun k hk => ?_, i8⟩
  have hk : k < cW A + 1 := hk
  show (upA A.2.2.2.1 (cW A) (a, b) k).1 < 7 ∧ (upA A.2.2.2.1 (cW A) (a, b) k).2 < 7
  rw [upA_at]
  split
  · exact ⟨ha, hb⟩
  · exact i7 k (by omega)
theorem rs.spouted {a : Nat} {b u : Int32} (hc : cc2 c) (hI : pI A) (K : rs y n c A nm m p h) (va : h.2.1 (c + 32 + cS A) 0 = nI a) (v1 : h.2.1 (c + 32 + cS A) 1 = u) (vb : h.2.1 (c + 32 + cS A) 2 = b) : rs y n c (A.1, nm, xS A.2.2.1 (160 + 3 * cS A) u, A.2.2.2.1, upA A.2.2.2.2.1 (cS A) (a, b), cI A, cW A, cH A, cB A, cS A + 1) nm m p (zsI h c 8 (nI (cS A + 1))) := by
  obtain ⟨b1, b2, b3, b4, b5⟩ := hI.2.2.1
  refine K.cnt hc (by decide) rfl (fun ⟨q0, q4, q5, q6, q7, q8, qs, qw, qp, qx⟩ => ?_)
  refine ⟨by rw [zsI_no (by omega)]; exact q0, by rw [zsI_no (by omega)]; exact q4, by rw [zsI_no (by omega)]; exact q5, by rw [zsI_no (by omega)]; exact q6, by rw [zsI_no (by omega)]; exact q7, zsI_eq, fun i hi => ?_, fun i hi => ?_, fun i hi => ?_, ?_⟩
  · have hi : i < cI A := hi
    show (zsI h c 8 _).2.1 (c + 2) i = nI (xS A.2.2.1 (160 + 3 * cS A) u i).length ∧ (zsI h c 8 _).2.1 (c + 1) i = codeS (xS A.2.2.1 (160 + 3 * cS A) u i)
    rw [zsI_no (by omega), zsI_no (by omega), xS1 (by omega)]; exact qs i hi
  · rw [zsI_no (by omega), zsI_no (by omega)]; exact qw i hi
  · have hi : i < cS A + 1 := hi
    show (zsI h c 8 _).2.1 (c + 32 + i) 0 = nI (upA A.2.2.2.2.1 (cS A) (a, b) i).1 ∧ (zsI h c 8 _).2.1 (c + 32 + i) 2 = (upA A.2.2.2.2.1 (cS A) (a, b) i).2
    rw [zsI_no (by omega), zsI_no (by omega), upA_at]
    split
    · next z => subst z; exact ⟨va, vb⟩
    · exact qp i (by omega)
  · have g : rX (okX (A.1, nm, A.2.2.1, A.2.2.2.1, A.2.2.2.2.1, cI A, cW A, cH A, cB A, cS A + 1)) A.2.2.1 c (zsI h c 8 (nI (cS A + 1))) := (qx.cnt (k := 8) (v := nI (cS A + 1)) (by decide) hI).mono (fun j ok => ok.up id (Nat.le_refl _) (Nat.le_refl _) (Nat.le_refl _) (Nat.le_succ _))
    have e1 : 160 + 3 * cS A = 159 + 3 * cS A + 1 := by omega
    rw [e1]
    refine g.add (.inr (.inr (.inr (.inr ⟨by omega, by show 159 + 3 * cS A + 1 < 159 + 3 * (cS A + 1); omega⟩)))) ?_
    rw [(oX_spt (by decide)).1, (oX_spt (by decide)).2, zsI_no (by omega), ← Nat.add_assoc]
    exact v1
theorem pI.spouted {a : Nat} {b : Int32} {S : Nat → List Int32} (hI : pI A) (hs : ∀ i, i < 7 → S i = A.2.2.1 i) (h1 : A.1 ≠ 0) (hS : cS A < 8) (ha : a < 5) : pI (A.1, A.2.1, S, A.2.2.2.1, upA A.2.2.2.2.1 (cS A) (a, b), cI A, cW A, cH A, cB A, cS A + 1) := by
  obtain ⟨i1, i2, ⟨b1, b2, b3, b4, b5⟩, i4, i5, i6, i7, i8⟩ := hI
  have i6 : ∀ i, i < cI A → okSong A.1 (S i) = true ∧ (S i).all isLt = true := fun i hi => by
    rw [hs i (by omega)]
    exact i6 i hi
  refine ⟨i1, fun e => absurd e h1, ⟨b1, b2, b3, b4, by show cS A + 1 ≤ 8; omega⟩, i4, i5, i6, i7, fun k hk => ?_⟩
  have hk : k < cS A + 1 := hk
  show (upA A.2.2.2.2.1 (cS A) (a, b) k).1 < 5
  rw [upA_at]
  split
  · exact ha
  · exact i8 k (by omega)
theorem rs.landed {w : List Int32} (hc : cc2 c) (hI : pI A) (hi7 : cI A < 7) (K : rs y n c A nm m p h) : rs y n c (A.1, nm, upA A.2.2.1 (cI A) w, A.2.2.2.1, A.2.2.2.2.1, cI A + 1, cW A, cH A, cB A, cS A) nm m p (zsI (zsI (zsI h (c + 1) (cI A) (codeS w)) (c + 2) (cI A) (nI w.length)) c 4 (nI (cI A + 1))) := by
  obtain ⟨b1, b2, b3, b4, b5⟩ := hI.2.2.1
  have hcc : c = 2 ∨ c = 42 := hc
  have K1 := K.wr (a := c + 1) (j := cI A) (v := codeS w) ⟨by omega, by omega, fun z => by omega, fun _ => Nat.le_refl _, fun z => by omega, fun k hk => by omega, fun k hk => by omega, fun i _ ho z => by rcases oX_at ho b2 b3 b4 b5 with q | ⟨_, _, q⟩ | ⟨_, _, q⟩ | ⟨_, _, q⟩ | ⟨_, _, q⟩ <;> omega⟩
  have K2 := K1.wr (a := c + 2) (j := cI A) (v := nI w.length) ⟨by omega, by omega, fun z => by omega, fun z => by omega, fun _ => Nat.le_refl _, fun k hk => by omega, fun k hk => by omega, fun i _ ho z => by rcases oX_at ho b2 b3 b4 b5 with q | ⟨_, _, q⟩ | ⟨_, _, q⟩ | ⟨_, _, q⟩ | ⟨_, _, q⟩ <;> omega⟩
  refine K2.cnt hc (by decide) rfl (fun ⟨q0, q4, q5, q6, q7, q8, qs, qw, qp, qx⟩ => ?_)
  refine ⟨by rw [zsI_no (by omega)]; exact q0, zsI_eq, by rw [zsI_no (by omega)]; exact q5, by rw [zsI_no (by omega)]; exact q6, by rw [zsI_no (by omega)]; exact q7, by rw [zsI_no (by omega)]; exact q8, fun i hi => ?_, fun i hi => ?_, fun i hi => ?_, ((qx.cnt (k := 4) (by decide) hI).mono (fun j ok => ok.up id (Nat.le_refl _) (Nat.le_refl _) (Nat.le_refl _) (Nat.le_refl _))).isl (by omega)⟩
  · have hi : i < cI A + 1 := hi
    show (zsI _ c 4 _).2.1 (c + 2) i = nI (upA A.2.2.1 (cI A) w i).length ∧ (zsI _ c 4 _).2.1 (c + 1) i = codeS (upA A.2.2.1 (cI A) w i)
    rw [upA_at]
    split
    · next z =>
      subst z
      exact ⟨(zsI_no (by omega)).trans zsI_eq, (zsI_no (by omega)).trans ((zsI_no (by omega)).trans zsI_eq)⟩
    · exact ⟨(zsI_no (by omega)).trans (qs i (by omega)).1, (zsI_no (by omega)).trans (qs i (by omega)).2⟩
  · exact ⟨(zsI_no (by omega)).trans (qw i hi).1, (zsI_no (by omega)).trans (qw i hi).2⟩
  · exact ⟨(zsI_no (by omega)).trans (qp i hi).1, (zsI_no (by omega)).trans (qp i hi).2⟩
theorem pI.landed (hI : pI A) (h1 : A.1 ≠ 0) (hi7 : cI A < 7) {w u : List Int32} (hn : nmI (upA A.2.1 (cI A) w)) (hw : w ≠ []) (hu : okSong A.1 u = true ∧ u.all isLt = true) : pI (A.1, upA A.2.1 (cI A) w, upA A.2.2.1 (cI A) u, A.2.2.2.1, A.2.2.2.2.1, cI A + 1, cW A, cH A, cB A, cS A) := by
  obtain ⟨i1, i2, ⟨b1, b2, b3, b4, b5⟩, i4, i5, i6, i7, i8⟩ := hI
  refine ⟨i1, fun e => absurd e h1, ⟨by show cI A + 1 ≤ 7; omega, b2, b3, b4, b5⟩, fun i hi => ?_, hn, fun i hi => ?_, i7, i8⟩
  · show upA A.2.1 (cI A) w i ≠ [] ↔ (i < cI A + 1 ∨ (7 ≤ i ∧ i < 7 + cH A) ∨ (12 ≤ i ∧ i < 12 + cB A))
    rw [upA_at]
    have := i4 i hi
    unfold occ at this
    split
    · next z => exact ⟨fun _ => by omega, fun _ => hw⟩
    · next z => rw [this]; omega
  · have hi : i < cI A + 1 := hi
    show okSong A.1 (upA A.2.2.1 (cI A) u i) = true ∧ (upA A.2.2.1 (cI A) u i).all isLt = true
    rw [upA_at]
    split
    · exact hu
    · exact i6 i (by omega)
end RD2
