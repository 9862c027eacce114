/-! the class's draft beside what was told -/
abbrev cI (A : pA) : Nat := A.2.2.2.2.2.1
abbrev cW (A : pA) : Nat := A.2.2.2.2.2.2.1
abbrev cH (A : pA) : Nat := A.2.2.2.2.2.2.2.1
abbrev cB (A : pA) : Nat := A.2.2.2.2.2.2.2.2.1
abbrev cS (A : pA) : Nat := A.2.2.2.2.2.2.2.2.2
def occ (A : pA) (i : Nat) : Prop := i < cI A ∨ (7 ≤ i ∧ i < 7 + cH A) ∨ (12 ≤ i ∧ i < 12 + cB A)
def nmI (nm : Nat → List Int32) : Prop := (∀ i, i < 20 → nm i ≠ [] → (nm i).all isLt = true ∧ (nm i).length ≤ 8) ∧ (∀ i j, i < 20 → j < 20 → nm i ≠ [] → nm i = nm j → i = j)
def pI (A : pA) : Prop := (A.1 = 0 ∨ A.1 = 2 ∨ A.1 = 3 ∨ A.1 = 4) ∧ (A.1 = 0 → cI A = 0 ∧ cW A = 0 ∧ cH A = 0 ∧ cB A = 0 ∧ cS A = 0) ∧ (cI A ≤ 7 ∧ cW A ≤ 12 ∧ cH A ≤ 5 ∧ cB A ≤ 8 ∧ cS A ≤ 8) ∧ (∀ i, i < 20 → (A.2.1 i ≠ [] ↔ occ A i)) ∧ nmI A.2.1 ∧ (∀ i, i < cI A → okSong A.1 (A.2.2.1 i) = true ∧ (A.2.2.1 i).all isLt = true) ∧ (∀ k, k < cW A → (A.2.2.2.1 k).1 < 7 ∧ (A.2.2.2.1 k).2 < 7) ∧ (∀ k, k < cS A → (A.2.2.2.2.1 k).1 < 5)
def sN (i : Nat) (s k : Int32) : Prop := (i < 7 ∧ s = 1 ∧ k = nI i) ∨ (7 ≤ i ∧ i < 12 ∧ s = 3 ∧ k = nI (i - 7)) ∨ (12 ≤ i ∧ s = 4 ∧ k = nI (i - 12))
def rcN (nm : Nat → List Int32) (m : Nat) (h : zH) : Prop := h.2.1 82 10 = nI m ∧ m ≤ 20 ∧ ∃ μ : Nat → Nat, (∀ j, j < m → μ j < 20 ∧ nm (μ j) ≠ [] ∧ h.2.2.1 83 j = codeL (nm (μ j)) ∧ sN (μ j) (h.2.1 84 j) (h.2.1 85 j)) ∧ ∀ i, i < 20 → nm i ≠ [] → ∃ j, j < m ∧ μ j = i
/-- numbers told, place by place -/
def okX (A : pA) (j : Nat) : Prop := (1 ≤ j ∧ j ≤ 3 ∧ A.1 ≠ 0) ∨ (59 ≤ j ∧ j < 59 + 4 * cW A) ∨ (107 ≤ j ∧ j < 107 + 4 * cH A) ∨ (127 ≤ j ∧ j < 127 + 4 * cB A) ∨ (159 ≤ j ∧ j < 159 + 3 * cS A)
def oX (j : Nat) : Nat := if j < 4 then 0 else if j < 107 then 7 + (j - 59) / 4 else if j < 127 then 19 + (j - 107) / 4 else if j < 159 then 24 + (j - 127) / 4 else 32 + (j - 159) / 3
def sX (j : Nat) : Nat := if j < 4 then j else if j < 107 then (j - 59) % 4 else if j < 127 then (j - 107) % 4 else if j < 159 then (j - 127) % 4 else (j - 159) % 3
def rX (ok : Nat → Prop) (S : Nat → List Int32) (c : Nat) (h : zH) : Prop := ∀ j, S (1000 + j) ≠ [] → ok j ∧ h.2.1 (c + oX j) (sX j) = (S (1000 + j)).getD 0 0
def rcC (A : pA) (c : Nat) (h : zH) : Prop := h.2.1 c 0 = A.1 ∧ h.2.1 c 4 = nI (cI A) ∧ h.2.1 c 5 = nI (cW A) ∧ h.2.1 c 6 = nI (cH A) ∧ h.2.1 c 7 = nI (cB A) ∧ h.2.1 c 8 = nI (cS A)
  ∧ (∀ i, i < cI A → h.2.1 (c + 2) i = nI (A.2.2.1 i).length ∧ h.2.1 (c + 1) i = codeS (A.2.2.1 i))
  ∧ (∀ k, k < cW A → h.2.1 (c + 7 + k) 0 = nI (A.2.2.2.1 k).1 ∧ h.2.1 (c + 7 + k) 1 = nI (A.2.2.2.1 k).2)
  ∧ (∀ k, k < cS A → h.2.1 (c + 32 + k) 0 = nI (A.2.2.2.2.1 k).1 ∧ h.2.1 (c + 32 + k) 2 = (A.2.2.2.2.1 k).2)
  ∧ rX (okX A) A.2.2.1 c h
def cc2 (c : Nat) : Prop := c = 2 ∨ c = 42
/-- between two tokens -/
def rs (y : Nat → Int32) (n c : Nat) (A : pA) (nm : Nat → List Int32) (m p : Nat) (h : zH) : Prop := rx y n c h ∧ h.2.1 82 2 = nI p ∧ p ≤ n ∧ rcC A c h ∧ rcN nm m h
def fl (e : sF) (h : zH) : Prop := h.2.1 82 11 = e.1 ∧ h.2.1 82 12 = nI e.2
theorem upX {S : Nat → List Int32} {i j : Nat} {x : Int32} : xS S i x (1000 + j) = if j = i then [x] else S (1000 + j) := by
  show (if 1000 + j = 1000 + i then [x] else S (1000 + j)) = _
  by_cases e : j = i
  · rw [if_pos e, if_pos (by omega)]
  · rw [if_neg e, if_neg (by omega)]
theorem upX_lo {S : Nat → List Int32} {i j : Nat} {x : Int32} (h : j < 1000) : xS S i x j = S j := by
  show (if j = 1000 + i then [x] else S j) = _
  rw [if_neg (by omega)]
theorem upI_hi {S : Nat → List Int32} {i j : Nat} {w : List Int32} (h : i < 1000) : upA S i w (1000 + j) = S (1000 + j) := by
  show (if 1000 + j = i then w else S (1000 + j)) = _
  rw [if_neg (by omega)]
theorem rX.add {ok : Nat → Prop} {S : Nat → List Int32} {c i : Nat} {h : zH} {x : Int32} (k : rX ok S c h) (hj : ok i) (hv : h.2.1 (c + oX i) (sX i) = x) : rX ok (xS S i x) c h := by
  intro j hj2
  rw [upX] at hj2 ⊢
  by_cases e : j = i
  · subst e
    rw [if_pos rfl]
    exact ⟨hj, hv⟩
  · rw [if_neg e] at hj2 ⊢
    exact k j hj2
theorem rX.mono {ok ok' : Nat → Prop} {S : Nat → List Int32} {c : Nat} {h : zH} (k : rX ok S c h) (e : ∀ j, ok j → ok' j) : rX ok' S c h := fun j hj => ⟨e j (k j hj).1, (k j hj).2⟩
theorem rX.wr {ok : Nat → Prop} {S : Nat → List Int32} {c a i : Nat} {v : Int32} {h : zH} (k : rX ok S c h) (e : ∀ j, S (1000 + j) ≠ [] → ok j → ¬ (c + oX j = a ∧ sX j = i)) : rX ok S c (zsI h a i v) := fun j hj => ⟨(k j hj).1, (zsI_no (e j hj (k j hj).1)).trans (k j hj).2⟩
theorem rX.isl {ok : Nat → Prop} {S : Nat → List Int32} {c i : Nat} {w : List Int32} {h : zH} (k : rX ok S c h) (hi : i < 1000) : rX ok (upA S i w) c h := fun j hj => by
  rw [upI_hi hi] at hj ⊢
  exact k j hj
theorem okX.up {A A' : pA} {j : Nat} (k : okX A j) (e0 : A.1 ≠ 0 → A'.1 ≠ 0) (h1 : cW A ≤ cW A') (h2 : cH A ≤ cH A') (h3 : cB A ≤ cB A') (h4 : cS A ≤ cS A') : okX A' j := by
  rcases k with ⟨a, b, c⟩ | k | k | k | k
  · exact .inl ⟨a, b, e0 c⟩
  · exact .inr (.inl ⟨k.1, by omega⟩)
  · exact .inr (.inr (.inl ⟨k.1, by omega⟩))
  · exact .inr (.inr (.inr (.inl ⟨k.1, by omega⟩)))
  · exact .inr (.inr (.inr (.inr ⟨k.1, by omega⟩)))
/-- where a told number lies -/
theorem oX_at {A : pA} {j : Nat} (k : okX A j) (b2 : cW A ≤ 12) (b3 : cH A ≤ 5) (b4 : cB A ≤ 8) (b5 : cS A ≤ 8) : (1 ≤ j ∧ j ≤ 3 ∧ A.1 ≠ 0 ∧ oX j = 0 ∧ sX j = j) ∨ (∃ i s, i < cW A ∧ s < 4 ∧ j = 59 + 4 * i + s ∧ oX j = 7 + i ∧ sX j = s) ∨ (∃ i s, i < cH A ∧ s < 4 ∧ j = 107 + 4 * i + s ∧ oX j = 19 + i ∧ sX j = s) ∨ (∃ i s, i < cB A ∧ s < 4 ∧ j = 127 + 4 * i + s ∧ oX j = 24 + i ∧ sX j = s) ∨ (∃ i s, i < cS A ∧ s < 3 ∧ j = 159 + 3 * i + s ∧ oX j = 32 + i ∧ sX j = s) := by
  unfold oX sX
  rcases k with ⟨k1, k2, k3⟩ | ⟨k1, k2⟩ | ⟨k1, k2⟩ | ⟨k1, k2⟩ | ⟨k1, k2⟩
  · exact .inl ⟨k1, k2, k3, by rw [if_pos (by omega)], by rw [if_pos (by omega)]⟩
  · refine .inr (.inl ⟨(j - 59) / 4, (j - 59) % 4, by omega, by omega, by omega, ?_, ?_⟩)
    · rw [if_neg (by omega), if_pos (by omega)]
    · rw [if_neg (by omega), if_pos (by omega)]
  · refine .inr (.inr (.inl ⟨(j - 107) / 4, (j - 107) % 4, by omega, by omega, by omega, ?_, ?_⟩))
    · rw [if_neg (by omega), if_neg (by omega), if_pos (by omega)]
    · rw [if_neg (by omega), if_neg (by omega), if_pos (by omega)]
  · refine .inr (.inr (.inr (.inl ⟨(j - 127) / 4, (j - 127) % 4, by omega, by omega, by omega, ?_, ?_⟩)))
    · rw [if_neg (by omega), if_neg (by omega), if_neg (by omega), if_pos (by omega)]
    · rw [if_neg (by omega), if_neg (by omega), if_neg (by omega), if_pos (by omega)]
  · refine .inr (.inr (.inr (.inr ⟨(j - 159) / 3, (j - 159) % 3, by omega, by omega, by omega, ?_, ?_⟩)))
    · rw [if_neg (by omega), if_neg (by omega), if_neg (by omega), if_neg (by omega)]
    · rw [if_neg (by omega), if_neg (by omega), if_neg (by omega), if_neg (by omega)]
theorem oX_le {A : pA} {j : Nat} (k : okX A j) (b2 : cW A ≤ 12) (b3 : cH A ≤ 5) (b4 : cB A ≤ 8) (b5 : cS A ≤ 8) : oX j ≤ 39 := by
  rcases oX_at k b2 b3 b4 b5 with z | ⟨i, s, z⟩ | ⟨i, s, z⟩ | ⟨i, s, z⟩ | ⟨i, s, z⟩ <;> omega
theorem oX_way {i s : Nat} (hi : i < 12) (hs : s < 4) : oX (59 + 4 * i + s) = 7 + i ∧ sX (59 + 4 * i + s) = s := by
  unfold oX sX
  rw [if_neg (by omega), if_pos (by omega), if_neg (by omega), if_pos (by omega)]
  omega
theorem oX_whl {i s : Nat} (hi : i < 5) (hs : s < 4) : oX (107 + 4 * i + s) = 19 + i ∧ sX (107 + 4 * i + s) = s := by
  unfold oX sX
  rw [if_neg (by omega), if_neg (by omega), if_pos (by omega), if_neg (by omega), if_neg (by omega), if_pos (by omega)]
  omega
theorem oX_box {i s : Nat} (hi : i < 8) (hs : s < 4) : oX (127 + 4 * i + s) = 24 + i ∧ sX (127 + 4 * i + s) = s := by
  unfold oX sX
  rw [if_neg (by omega), if_neg (by omega), if_neg (by omega), if_pos (by omega), if_neg (by omega), if_neg (by omega), if_neg (by omega), if_pos (by omega)]
  omega
theorem oX_spt {i s : Nat} (hs : s < 3) : oX (159 + 3 * i + s) = 32 + i ∧ sX (159 + 3 * i + s) = s := by
  unfold oX sX
  rw [if_neg (by omega), if_neg (by omega), if_neg (by omega), if_neg (by omega), if_neg (by omega), if_neg (by omega), if_neg (by omega), if_neg (by omega)]
  omega
section RDY
variable {y : Nat → Int32} {n c d N p m : Nat} {h h' : zH} {A : pA} {nm : Nat → List Int32} {Q : Option zV → zH → Prop}
theorem rcC.fr (hc : cc2 c) (hI : pI A) (k : rcC A c h) (e : ∀ a j, a < 82 → h'.2.1 a j = h.2.1 a j) : rcC A c h' := by
  obtain ⟨b1, b2, b3, b4, b5⟩ := hI.2.2.1
  have hc : c ≤ 42 := by rcases hc with q | q <;> omega
  obtain ⟨k0, k4, k5, k6, k7, k8, ks, kw, kp, kx⟩ := k
  refine ⟨(e _ _ (by omega)).trans k0, (e _ _ (by omega)).trans k4, (e _ _ (by omega)).trans k5, (e _ _ (by omega)).trans k6, (e _ _ (by omega)).trans k7, (e _ _ (by omega)).trans k8, fun i hi => ?_, fun i hi => ?_, fun i hi => ?_, fun j hj => ⟨(kx j hj).1, (e _ _ (by have := oX_le (kx j hj).1 b2 b3 b4 b5; omega)).trans (kx j hj).2⟩⟩
  · exact ⟨(e _ _ (by omega)).trans (ks i hi).1, (e _ _ (by omega)).trans (ks i hi).2⟩
  · exact ⟨(e _ _ (by omega)).trans (kw i hi).1, (e _ _ (by omega)).trans (kw i hi).2⟩
  · exact ⟨(e _ _ (by omega)).trans (kp i hi).1, (e _ _ (by omega)).trans (kp i hi).2⟩
theorem rcN.fr (k : rcN nm m h) (e10 : h'.2.1 82 10 = h.2.1 82 10) (e84 : ∀ j, h'.2.1 84 j = h.2.1 84 j) (e85 : ∀ j, h'.2.1 85 j = h.2.1 85 j) (eL : h'.2.2.1 = h.2.2.1) : rcN nm m h' := by
  obtain ⟨k1, k2, μ, k3, k4⟩ := k
  refine ⟨e10.trans k1, k2, μ, fun j hj => ?_, k4⟩
  obtain ⟨a, b, g, s⟩ := k3 j hj
  exact ⟨a, b, by rw [eL]; exact g, by rw [e84, e85]; exact s⟩
theorem rs.nx (hc : cc2 c) (hI : pI A) (k : rs y n c A nm m p h) (q : nx y n p h h') (ht : tT y n p ≠ 1) : rs y n c A nm m (tE y n p) h' := by
  obtain ⟨k1, k2, k3, k4, k5⟩ := k
  have g := q.ct k1 k3
  refine ⟨g.1, g.2.2.2.2 ht, (tE_sp k3).2.1, k4.fr hc hI (fun a j ha => q.at (by omega)), k5.fr (q.at (by omega)) (fun j => q.at (by omega)) (fun j => q.at (by omega)) (congrArg Prod.fst q.rest.2)⟩
theorem rs.v5 {v : Int32} (hc : cc2 c) (hI : pI A) (k : rs y n c A nm m p h) : rs y n c A nm m p (zsI h 82 5 v) := by
  obtain ⟨k1, k2, k3, k4, k5⟩ := k
  exact ⟨k1.zs (by decide), by rw [zsI_no (by omega)]; exact k2, k3, k4.fr hc hI (fun a j ha => zsI_no (by omega)), k5.fr (zsI_no (by omega)) (fun j => zsI_no (by omega)) (fun j => zsI_no (by omega)) rfl⟩
theorem flt.fl {k : Int32} {s : Nat} (q : flt k s h h') : fl (k, s) h' := by
  have q : h' = zsI (zsI h 82 11 k) 82 12 (nI s) := q
  subst q
  exact ⟨by rw [zsI_no (by omega)]; exact zsI_eq, zsI_eq⟩
def fr82 (h h' : zH) : Prop := ∀ a j, a < 82 → h'.2.1 a j = h.2.1 a j
def wdR (y : Nat → Int32) (n c : Nat) (A : pA) (nm : Nat → List Int32) (m : Nat) (h : zH) (r : sF ⊕ Nat) (v : Option zV) (h' : zH) : Prop := match r with
  | .inl e => v = some (.inl 0) ∧ fl e h'
  | .inr q => v = some (.inl 1) ∧ rs y n c A nm m q h' ∧ fr82 h h'
def nuR (y : Nat → Int32) (n c : Nat) (A : pA) (nm : Nat → List Int32) (m : Nat) (h : zH) (r : sF ⊕ (Int32 × Nat)) (v : Option zV) (h' : zH) : Prop := match r with
  | .inl e => v = some (.inl 0) ∧ fl e h'
  | .inr q => v = some (.inl 1) ∧ rs y n c A nm m q.2 h' ∧ h'.2.1 82 5 = q.1 ∧ fr82 h h'
def olR (y : Nat → Int32) (n c : Nat) (A : pA) (nm : Nat → List Int32) (m p : Nat) (h : zH) (r : sF ⊕ (Nat × Nat)) (v : Option zV) (h' : zH) : Prop := match r with
  | .inl e => v = some (.inl 0) ∧ fl e h'
  | .inr q => v = some (.inl 1) ∧ rs y n c A nm m q.2 h' ∧ h'.2.1 82 5 = nI q.1 ∧ h'.2.1 82 4 = nI (tS y n p) ∧ fr82 h h'
theorem C_word {a : Nat} {bs : List Int32} (hc : cc2 c) (hI : pI A) (k : rs y n c A nm m p h) (hz : zsc a = some bs) : zPa d mX5_word [.inr (.inr (some 82)), .inr (.inr (some a))] h (wdR y n c A nm m h (sWord y n bs p)) := by
  refine (c_word k.1 k.2.1 k.2.2.1 hz).mono (fun v h' hq => ?_)
  rcases hq with ⟨e, w, q⟩ | ⟨e, w, h1, q, g⟩
  · have w' := wIs_w.mp w
    unfold sWord
    rw [if_pos w']
    exact ⟨e, k.nx hc hI q (by rw [w'.1]; decide), fun a j ha => q.at (by omega)⟩
  · unfold sWord
    rw [if_neg (fun z => w (wIs_w.mpr z))]
    exact ⟨e, g.fl⟩
theorem C_whole {lo hi : Int32} (hc : cc2 c) (hI : pI A) (k : rs y n c A nm m p h) : zPa d mX5_whole [.inr (.inr (some 82)), .inl lo, .inl hi] h (nuR y n c A nm m h (sNum y n lo hi p)) := by
  refine (c_whole k.1 k.2.1 k.2.2.1).mono (fun v h' hq => ?_)
  obtain ⟨h1, q, ⟨e, w, g⟩ | ⟨w, e, a, b, g⟩ | ⟨w, e, a, g⟩⟩ := hq
  · unfold sNum
    rw [if_neg w]
    exact ⟨e, g.fl⟩
  · unfold sNum
    rw [if_pos w, if_pos ⟨a, b⟩]
    subst g
    exact ⟨e, (k.nx hc hI q (by rw [w]; decide)).v5 hc hI, zsI_eq, fun a j ha => by rw [zsI_no (by omega)]; exact q.at (by omega)⟩
  · unfold sNum
    rw [if_pos w, if_neg a]
    exact ⟨e, g.fl⟩
theorem isNb_n : isNb y n p = true ↔ isN y n p := by
  unfold isNb isN kws
  have hs : srt y n p (-2) ↔ (¬ wIs y n p wPost ∧ ¬ wIs y n p wIsland ∧ ¬ wIs y n p wWay ∧ ¬ wIs y n p wWhale ∧ ¬ wIs y n p wBox ∧ ¬ wIs y n p wSpout) := by
    refine ⟨fun e => ?_, fun e => .inr (.inr (.inr (.inr (.inr (.inr ⟨rfl, e⟩)))))⟩
    rcases e with e | e | e | e | e | e | e
    · exact absurd e.1 (by decide)
    · exact absurd e.1 (by decide)
    · exact absurd e.1 (by decide)
    · exact absurd e.1 (by decide)
    · exact absurd e.1 (by decide)
    · exact absurd e.1 (by decide)
    · exact e.2
  rw [hs]
  simp only [wIs_w, Bool.and_eq_true, decide_eq_true_eq, Bool.not_eq_true', ← Bool.not_eq_true, List.contains_iff_mem, List.mem_cons, List.not_mem_nil, or_false, not_or, not_and]
  refine ⟨fun ⟨a, b⟩ => ⟨a, ?_⟩, fun ⟨a, b⟩ => ⟨a, ?_⟩⟩
  · exact ⟨fun _ => b.1, fun _ => b.2.1, fun _ => b.2.2.1, fun _ => b.2.2.2.1, fun _ => b.2.2.2.2.1, fun _ => b.2.2.2.2.2⟩
  · exact ⟨b.1 a, b.2.1 a, b.2.2.1 a, b.2.2.2.1 a, b.2.2.2.2.1 a, b.2.2.2.2.2 a⟩
theorem cIn_lt2 {k : Nat} (q : cIn 97 122 y n k = true) : isLt (y k) = true := by
  unfold cIn at q
  unfold isLt
  rw [Bool.and_eq_true] at q
  exact q.2
theorem seg_all {f : Int32 → Bool} : ∀ {k s : Nat}, (∀ j, s ≤ j → j < s + k → f (y j) = true) → (seg y k s).all f = true
  | 0, _, _ => rfl
  | k + 1, s, hh => by
    show (f (y s) && (seg y k (s + 1)).all f) = true
    rw [hh s (Nat.le_refl _) (by omega), seg_all (fun j h1 h2 => hh j (by omega) (by omega))]
    rfl
theorem tW_ok (hp : p ≤ n) (ht : tT y n p = 2) : (tW y n p).all isLt = true ∧ (tW y n p).length ≤ 8 ∧ tW y n p ≠ [] := by
  obtain ⟨a, b, g⟩ := tS_sp (y := y) hp
  unfold tW tE
  unfold tT at ht
  generalize tS y n p = s at *
  unfold tT0 at ht
  split at ht
  · exact absurd ht (by decide)
  · next c1 =>
    split at ht
    · exact absurd ht (by decide)
    · next c2 =>
      split at ht
      · next c3 =>
        split at ht
        · next c4 =>
          have eE : tE0 y n s = scan (cIn 97 122 y n) (n - s) s := by unfold tE0; rw [if_neg c1, if_neg c2, if_pos c3]
          rw [eE]
          obtain ⟨u1, u2, u3, u4⟩ := run_sp (lo := 97) (hi := 122) (y := y) b
          have hgt := run_gt c3
          refine ⟨seg_all (fun j h1 h2 => cIn_lt2 (u3 j h1 (by omega))), by rw [seg_len]; exact c4, fun z => ?_⟩
          have := congrArg List.length z
          rw [seg_len] at this
          have : scan (cIn 97 122 y n) (n - s) s - s = 0 := this
          omega
        · exact absurd ht (by decide)
      · split at ht
        · split at ht
          · exact absurd ht (by decide)
          · exact absurd ht (by decide)
        · exact absurd ht (by decide)
theorem nFind_some {i : Nat} {w : List Int32} (hn : nmI nm) (hi : i < 20) (hw : w ≠ []) (e : nm i = w) : nFind nm w = some i := by
  unfold nFind
  cases hq : (List.range 20).find? (fun i => decide (nm i = w)) with
  | none =>
    have := List.find?_eq_none.mp hq i (List.mem_range.mpr hi)
    exact absurd (decide_eq_true e) this
  | some j =>
    have h1 := List.find?_some hq
    have h2 := List.mem_of_find?_eq_some hq
    have h1 : nm j = w := of_decide_eq_true h1
    rw [hn.2 i j hi (List.mem_range.mp h2) (by rw [e]; exact hw) (e.trans h1.symm)]
theorem nFind_none {w : List Int32} (e : ∀ i, i < 20 → nm i ≠ w) : nFind nm w = none :=
  List.find?_eq_none.mpr (fun i hi z => e i (List.mem_range.mp hi) (of_decide_eq_true z))
/-- the class's names and the told ones -/
theorem rcN.no (k : rcN nm m h) (hw : tW y n p ≠ []) (hno : ∀ i, i < m → h.2.2.1 83 i ≠ tLet y n p) : nFind nm (tW y n p) = none := by
  obtain ⟨k1, k2, μ, k3, k4⟩ := k
  refine nFind_none (fun i hi z => ?_)
  obtain ⟨j, hj, ej⟩ := k4 i hi (by rw [z]; exact hw)
  refine hno j hj ?_
  rw [(k3 j hj).2.2.1, ej, z, tLet_w]
theorem rcN.yes (k : rcN nm m h) (hn : nmI nm) (hp : p ≤ n) (ht : tT y n p = 2) {j : Nat} (hj : j < m) (e : h.2.2.1 83 j = tLet y n p) : ∃ i, i < 20 ∧ nFind nm (tW y n p) = some i ∧ sN i (h.2.1 84 j) (h.2.1 85 j) := by
  obtain ⟨k1, k2, μ, k3, k4⟩ := k
  obtain ⟨a, b, g, s⟩ := k3 j hj
  obtain ⟨w1, w2, w3⟩ := tW_ok hp ht
  obtain ⟨n1, n2⟩ := hn.1 _ a b
  have ew : nm (μ j) = tW y n p := codeL_inj n1 w1 n2 w2 (by rw [← g, e, tLet_w])
  exact ⟨μ j, a, nFind_some hn a w3 ew, s⟩
theorem C_old {s : Int32} {lo hi : Nat} (hs : (s = 1 ∧ lo = 0 ∧ hi = 6) ∨ (s = 3 ∧ lo = 7 ∧ hi = 11)) (hc : cc2 c) (hI : pI A) (hn : nmI nm) (k : rs y n c A nm m p h) : zPa d mX5_toldName [.inr (.inr (some 82)), .inl s] h (olR y n c A nm m p h (sOld y n nm lo hi p)) := by
  refine (c_told k.1 k.2.1 k.2.2.1 k.2.2.2.2.1 k.2.2.2.2.2.1).mono (fun v h' hq => ?_)
  obtain ⟨h1, q, ⟨e, w, g⟩ | ⟨w, a, e, g⟩ | ⟨w, e, j, hj, ej, -, es, g⟩⟩ := hq
  · unfold sOld
    rw [if_neg (fun z => w (isNb_n.mp z))]
    exact ⟨e, g.fl⟩
  · unfold sOld
    rw [if_pos (isNb_n.mpr w)]
    rcases a with a | ⟨j, hj, ej, -, es⟩
    · rw [k.2.2.2.2.no (tW_ok k.2.2.1 w.1).2.2 a]
      exact ⟨e, g.fl⟩
    · obtain ⟨i, i1, i2, i3⟩ := k.2.2.2.2.yes hn k.2.2.1 w.1 hj ej
      rw [i2]
      dsimp only
      rw [if_neg (fun z => es (by
        rcases hs with ⟨q1, q2, q3⟩ | ⟨q1, q2, q3⟩
        · rcases i3 with z3 | z3 | z3
          · rw [z3.2.1, q1]
          · omega
          · omega
        · rcases i3 with z3 | z3 | z3
          · omega
          · rw [z3.2.2.1, q1]
          · omega))]
      exact ⟨e, g.fl⟩
  · unfold sOld
    obtain ⟨i, i1, i2, i3⟩ := k.2.2.2.2.yes hn k.2.2.1 w.1 hj ej
    rw [if_pos (isNb_n.mpr w), i2]
    dsimp only
    rw [es] at i3
    have hi : lo ≤ i ∧ i ≤ hi ∧ h.2.1 85 j = nI (i - lo) := by
      rcases hs with ⟨q1, q2, q3⟩ | ⟨q1, q2, q3⟩
      · subst q1; subst q2; subst q3
        rcases i3 with z3 | z3 | z3
        · exact ⟨by omega, by omega, z3.2.2⟩
        · exact absurd z3.2.2.1 (by decide)
        · exact absurd z3.2.1 (by decide)
      · subst q1; subst q2; subst q3
        rcases i3 with z3 | z3 | z3
        · exact absurd z3.2.1 (by decide)
        · exact ⟨by omega, by omega, z3.2.2.2⟩
        · exact absurd z3.2.1 (by decide)
    rw [if_pos ⟨hi.1, hi.2.1⟩]
    subst g
    exact ⟨e, (k.nx hc hI q (by rw [w.1]; decide)).v5 hc hI, by rw [zsI_eq]; exact hi.2.2, by rw [zsI_no (by omega)]; exact (q.ct k.1 k.2.2.1).2.2.1, fun a j ha => by rw [zsI_no (by omega)]; exact q.at (by omega)⟩
end RDY
