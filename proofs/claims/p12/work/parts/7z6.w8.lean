/-! answers: whale, box, sung -/
theorem nI_ob {x : Int32} {n : Nat} (h0 : 0 ≤ x.toInt) (h1 : x.toInt < (n : Int)) : ∃ w : Nat, x = nI w ∧ w < n ∧ x.toInt.toNat = w := ⟨x.toInt.toNat, x_nI h0, by omega, rfl⟩
def whF (A : pA) (s : nS) (w : Nat) : Nat → Int32
  | 0 => kdA A w
  | 1 => nI (s.2.2.1 w)
  | 2 => nI (s.2.2.2.1 w)
  | 3 => nI (nu A (109 + 4 * w))
  | _ => nI (nu A (110 + 4 * w))
def whV (A : pA) (s : nS) (x y : Int32) : Int32 := if (0 ≤ x.toInt ∧ x.toInt < (cH A : Int)) ∧ 0 ≤ y.toInt ∧ y.toInt < 5 then whF A s x.toInt.toNat y.toInt.toNat else -1
def boF (A : pA) (s : nS) (b : Nat) : Nat → Int32
  | 0 => nI (nu A (127 + 4 * b))
  | 1 => nI (nu A (128 + 4 * b))
  | 2 => nI (nu A (129 + 4 * b))
  | 3 => nI (nu A (130 + 4 * b))
  | 4 => sDy (s.2.2.2.2.1 b)
  | _ => sGo (s.2.2.2.2.1 b)
def boV (A : pA) (s : nS) (x y : Int32) : Int32 := if (0 ≤ x.toInt ∧ x.toInt < (cB A : Int)) ∧ 0 ≤ y.toInt ∧ y.toInt < 6 then boF A s x.toInt.toNat y.toInt.toNat else -1
def suV (A : pA) (s : nS) (x y : Int32) : Int32 := if (0 ≤ x.toInt ∧ x.toInt < (cB A : Int)) ∧ 0 ≤ y.toInt ∧ y.toInt < (lB A x.toInt.toNat : Int) then nI (dg ((s.2.2.2.2.2 x.toInt.toNat).getD y.toInt.toNat 0)) else -1
section AN1
variable {t d N c w b : Nat} {h g : zH} {A : pA} {s : nS} {H J : List nS} {x y : Int32} {kk : Bool} {im : Int32}
theorem lPA.hasH (hA : lPA A c h) (hw : w < cH A) : cI A ≠ 0 := by
  rcases hA.2.2.2.2 with ⟨-, e⟩ | ⟨-, z, -⟩
  · rw [e] at hw
    exact absurd hw (Nat.not_lt_zero w)
  · exact z
theorem in_v {x lo hi : Int32} : zPa d mX12_in [.inl x, .inl lo, .inl hi] h (fun v g => v = some (.inl (if lo.toInt ≤ x.toInt ∧ x.toInt ≤ hi.toInt then 1 else 0)) ∧ g = h) := in_ex2.mono (fun v g hq => by
  obtain ⟨e, hq⟩ := hq
  rcases hq with ⟨ev, a, b⟩ | ⟨ev, a⟩
  · rw [if_pos ⟨Int32.le_iff_toInt_le.mp a, Int32.le_iff_toInt_le.mp b⟩]
    exact ⟨ev, e⟩
  · rw [if_neg (fun q => a ⟨Int32.le_iff_toInt_le.mpr q.1, Int32.le_iff_toInt_le.mpr q.2⟩)]
    exact ⟨ev, e⟩)
theorem N_whale11 (z : lZ A c s H J h) (hi : lInv t h) : zPa d mX11_whale [.inr (.inr (some 0)), .inl x, .inl y] h (fun v _ => v = some (.inl (whV A s x y))) := by
  intro N
  have h1 := hi.2.2.2.2.1
  have hA := z.1.1
  have hT := z.1.2.1
  have hB := z.1.2.2
  have hI := hA.1
  have hN := z.2.1.1
  have K := hA.2.2.2.1
  have hc2 : c = 2 ∨ c = 42 := hA.2.1
  obtain ⟨b1, b2, b3, b4, b5⟩ := hI.2.2.1
  have s0 : zsh h 0 = some (11, 16) := zsh_by h1 (by decide +kernel)
  obtain ⟨sc, sc1, sc2, sc4, sc5, scw, scb⟩ := cSh hA.2.1 h1
  obtain ⟨c9, c12, c13, cw, cb⟩ := cRf_of hi.1 hA.2.1
  have S := hi.nw
  obtain ⟨⟨s86, s87, s88, s89, s90, s91⟩, r87, r88, r89, r90, r91⟩ := S.o86
  have r3 := hA.2.2.1
  have r6 := S.2.1
  obtain ⟨n1, n2, n3, n4⟩ := z.2.2.1.1
  show zPn N none d mX11_whale (0, [(0, .inr (.inr (some 0))), (1, .inl x), (2, .inl y)], [], h) _
  refine pa_aload_n (pc' := 1) dX11_whale_0 rfl rfl ?_
  refine pa_iload_n (pc' := 2) dX11_whale_1 rfl rfl ?_
  refine pa_callv (pc' := 5) (vs := [.inl x]) (rest := []) dX11_whale_2 ml_11_121 (by decide) rfl rfl rfl (fun d' _ => (N_isWhale hA h1)) (fun v g9 hq => ?_)
  obtain ⟨ev, eh⟩ := hq
  subst ev
  rw [eh]
  show zPn N none d mX11_whale (5, _, [.inl (if 0 ≤ x.toInt ∧ x.toInt < (cH A:Int) then 1 else 0)], h) _
  by_cases hx : 0 ≤ x.toInt ∧ x.toInt < (cH A : Int)
  case neg =>
    rw [if_neg hx]
    refine pa_if_f (pc' := 8) dX11_whale_5 (by decide) (by decide) rfl ?_
    refine pa_aload_n (pc' := 9) dX11_whale_8 rfl rfl ?_
    refine pa_iconst (v := nI 1) (pc' := 10) dX11_whale_9 (by decide) rfl ?_
    refine pa_callv (pc' := 13) (vs := [.inl (nI 1)]) (rest := []) dX11_whale_10 ml_11_98 (by decide) rfl rfl rfl (fun d' _ => (c_ref s0)) (fun v g hq => ?_)
    obtain ⟨ev, eh⟩ := hq
    subst ev
    show zPn N none d mX11_whale (13, _, [.inl ((-1))], g) _
    refine pa_iret dX11_whale_13 rfl rfl ?_
    unfold whV
    rw [if_neg (fun q => hx q.1)]
  obtain ⟨w, rfl, hw, ew⟩ := nI_ob hx.1 hx.2
  rw [if_pos hx]
  refine pa_if_t (pc' := 14) dX11_whale_5 (by decide) (by decide) ?_
  refine pa_iload_n (pc' := 15) dX11_whale_14 rfl rfl ?_
  by_cases hy : 0 ≤ y.toInt ∧ y.toInt < 5
  case neg =>
    refine pa_switch (pc' := 127) dX11_whale_15 (fun _ => rfl) (fun q => absurd (show y.toInt < 0 ∨ 4 < y.toInt by omega) q) ?_
    refine pa_aload_n (pc' := 128) dX11_whale_127 rfl rfl ?_
    refine pa_iconst (v := nI 1) (pc' := 129) dX11_whale_128 (by decide) rfl ?_
    refine pa_callv (pc' := 132) (vs := [.inl (nI 1)]) (rest := []) dX11_whale_129 ml_11_98 (by decide) rfl rfl rfl (fun d' _ => (c_ref s0)) (fun v g hq => ?_)
    obtain ⟨ev, eh⟩ := hq
    subst ev
    show zPn N none d mX11_whale (132, _, [.inl ((-1))], g) _
    refine pa_iret dX11_whale_132 rfl rfl ?_
    unfold whV
    rw [if_neg (fun q => hy q.2)]
  obtain ⟨q, rfl, hq, eq⟩ := nI_ob (n := 5) hy.1 hy.2
  have V : whV A s (nI w) (nI q) = whF A s w q := by
    unfold whV
    rw [if_pos ⟨hx, hy⟩, ew, eq]
  rw [V]
  clear V eq
  have hq : q = 0 ∨ q = 1 ∨ q = 2 ∨ q = 3 ∨ q = 4 := by omega
  rcases hq with rfl | rfl | rfl | rfl | rfl
  · refine pa_switch (pc' := 48) dX11_whale_15 (fun e => absurd e (by decide)) (fun _ => ⟨33, by decide, rfl⟩) ?_
    have sw := scw w (by omega)
    have rw_ := cw w (by omega)
    have q : h.2.1 (c + 19 + w) 0 = kdA A w := K.wh (j := 0) hT hI hw (by decide)
    refine pa_aload_n (pc' := 49) dX11_whale_48 rfl rfl ?_
    refine pa_aload_n (pc' := 50) dX11_whale_49 rfl rfl ?_
    refine pa_getR (pc' := 53) (n := 16) (r := c) dX11_whale_50 fl_11_23 s0 (by decide) r3 rfl ?_
    refine pa_getR (pc' := 56) (n := 15) (r := c + 4) dX11_whale_53 fl_11_125 sc (by decide) c12 rfl ?_
    refine pa_iload_n (pc' := 57) dX11_whale_56 rfl rfl ?_
    refine pa_aald (pc' := 58) (r := c + 19 + w) dX11_whale_57 sc4 (by decide) (zn_in (by omega) (by omega)) (by rw [nI_clamp (by omega)]; exact rw_) rfl ?_
    refine pa_getI (pc' := 61) (n := 4) (v := kdA A w) dX11_whale_58 fl_11_129 sw (by decide) q rfl ?_
    refine pa_callv (pc' := 64) (vs := [.inl (kdA A w)]) (rest := []) dX11_whale_61 ml_11_112 (by decide) rfl rfl rfl (fun d' _ => (c_gra s0)) (fun v g hq => ?_)
    obtain ⟨ev, eh⟩ := hq
    subst ev
    show zPn N none d mX11_whale (64, _, [.inl ((kdA A w))], g) _
    refine pa_iret dX11_whale_64 rfl rfl ?_
    rfl
  · refine pa_switch (pc' := 65) dX11_whale_15 (fun e => absurd e (by decide)) (fun _ => ⟨50, by decide, rfl⟩) ?_
    have q : h.2.1 87 w = nI (s.2.2.1 w) := (n3 w hw).1
    refine pa_aload_n (pc' := 66) dX11_whale_65 rfl rfl ?_
    refine pa_aload_n (pc' := 67) dX11_whale_66 rfl rfl ?_
    refine pa_getR (pc' := 70) (n := 16) (r := 86) dX11_whale_67 fl_11_42 s0 (by decide) r6 rfl ?_
    refine pa_getR (pc' := 73) (n := 7) (r := 87) dX11_whale_70 fl_11_134 s86 (by decide) r87 rfl ?_
    refine pa_iload_n (pc' := 74) dX11_whale_73 rfl rfl ?_
    refine pa_iald (pc' := 75) dX11_whale_74 s87 rfl (fun _ => ?_)
    rw [nI_clamp (by omega), q]
    refine pa_callv (pc' := 78) (vs := [.inl (nI (s.2.2.1 w))]) (rest := []) dX11_whale_75 ml_11_112 (by decide) rfl rfl rfl (fun d' _ => (c_gra s0)) (fun v g hq => ?_)
    obtain ⟨ev, eh⟩ := hq
    subst ev
    show zPn N none d mX11_whale (78, _, [.inl (nI ((s.2.2.1 w)))], g) _
    refine pa_iret dX11_whale_78 rfl rfl ?_
    rfl
  · refine pa_switch (pc' := 79) dX11_whale_15 (fun e => absurd e (by decide)) (fun _ => ⟨64, by decide, rfl⟩) ?_
    have q : h.2.1 88 w = nI (s.2.2.2.1 w) := (n3 w hw).2
    refine pa_aload_n (pc' := 80) dX11_whale_79 rfl rfl ?_
    refine pa_aload_n (pc' := 81) dX11_whale_80 rfl rfl ?_
    refine pa_getR (pc' := 84) (n := 16) (r := 86) dX11_whale_81 fl_11_42 s0 (by decide) r6 rfl ?_
    refine pa_getR (pc' := 87) (n := 7) (r := 88) dX11_whale_84 fl_11_138 s86 (by decide) r88 rfl ?_
    refine pa_iload_n (pc' := 88) dX11_whale_87 rfl rfl ?_
    refine pa_iald (pc' := 89) dX11_whale_88 s88 rfl (fun _ => ?_)
    rw [nI_clamp (by omega), q]
    refine pa_callv (pc' := 92) (vs := [.inl (nI (s.2.2.2.1 w))]) (rest := []) dX11_whale_89 ml_11_112 (by decide) rfl rfl rfl (fun d' _ => (c_gra s0)) (fun v g hq => ?_)
    obtain ⟨ev, eh⟩ := hq
    subst ev
    show zPn N none d mX11_whale (92, _, [.inl (nI ((s.2.2.2.1 w)))], g) _
    refine pa_iret dX11_whale_92 rfl rfl ?_
    rfl
  · refine pa_switch (pc' := 93) dX11_whale_15 (fun e => absurd e (by decide)) (fun _ => ⟨78, by decide, rfl⟩) ?_
    have sw := scw w (by omega)
    have rw_ := cw w (by omega)
    have q : h.2.1 (c + 19 + w) 2 = nI (nu A (109 + 4 * w)) := by rw [K.wh hT hI hw (by decide), (num_whale hI hB hT hw).2.2.2.2 2 (by decide), show 107 + 4 * w + 2 = 109 + 4 * w by omega]
    refine pa_aload_n (pc' := 94) dX11_whale_93 rfl rfl ?_
    refine pa_aload_n (pc' := 95) dX11_whale_94 rfl rfl ?_
    refine pa_getR (pc' := 98) (n := 16) (r := c) dX11_whale_95 fl_11_23 s0 (by decide) r3 rfl ?_
    refine pa_getR (pc' := 101) (n := 15) (r := c + 4) dX11_whale_98 fl_11_125 sc (by decide) c12 rfl ?_
    refine pa_iload_n (pc' := 102) dX11_whale_101 rfl rfl ?_
    refine pa_aald (pc' := 103) (r := c + 19 + w) dX11_whale_102 sc4 (by decide) (zn_in (by omega) (by omega)) (by rw [nI_clamp (by omega)]; exact rw_) rfl ?_
    refine pa_getI (pc' := 106) (n := 4) (v := nI (nu A (109 + 4 * w))) dX11_whale_103 fl_11_141 sw (by decide) q rfl ?_
    refine pa_callv (pc' := 109) (vs := [.inl (nI (nu A (109 + 4 * w)))]) (rest := []) dX11_whale_106 ml_11_112 (by decide) rfl rfl rfl (fun d' _ => (c_gra s0)) (fun v g hq => ?_)
    obtain ⟨ev, eh⟩ := hq
    subst ev
    show zPn N none d mX11_whale (109, _, [.inl (nI ((nu A (109 + 4 * w))))], g) _
    refine pa_iret dX11_whale_109 rfl rfl ?_
    rfl
  · refine pa_switch (pc' := 110) dX11_whale_15 (fun e => absurd e (by decide)) (fun _ => ⟨95, by decide, rfl⟩) ?_
    have sw := scw w (by omega)
    have rw_ := cw w (by omega)
    have q : h.2.1 (c + 19 + w) 3 = nI (nu A (110 + 4 * w)) := by rw [K.wh hT hI hw (by decide), (num_whale hI hB hT hw).2.2.2.2 3 (by decide), show 107 + 4 * w + 3 = 110 + 4 * w by omega]
    refine pa_aload_n (pc' := 111) dX11_whale_110 rfl rfl ?_
    refine pa_aload_n (pc' := 112) dX11_whale_111 rfl rfl ?_
    refine pa_getR (pc' := 115) (n := 16) (r := c) dX11_whale_112 fl_11_23 s0 (by decide) r3 rfl ?_
    refine pa_getR (pc' := 118) (n := 15) (r := c + 4) dX11_whale_115 fl_11_125 sc (by decide) c12 rfl ?_
    refine pa_iload_n (pc' := 119) dX11_whale_118 rfl rfl ?_
    refine pa_aald (pc' := 120) (r := c + 19 + w) dX11_whale_119 sc4 (by decide) (zn_in (by omega) (by omega)) (by rw [nI_clamp (by omega)]; exact rw_) rfl ?_
    refine pa_getI (pc' := 123) (n := 4) (v := nI (nu A (110 + 4 * w))) dX11_whale_120 fl_11_144 sw (by decide) q rfl ?_
    refine pa_callv (pc' := 126) (vs := [.inl (nI (nu A (110 + 4 * w)))]) (rest := []) dX11_whale_123 ml_11_112 (by decide) rfl rfl rfl (fun d' _ => (c_gra s0)) (fun v g hq => ?_)
    obtain ⟨ev, eh⟩ := hq
    subst ev
    show zPn N none d mX11_whale (126, _, [.inl (nI ((nu A (110 + 4 * w))))], g) _
    refine pa_iret dX11_whale_126 rfl rfl ?_
    rfl
theorem N_box11 (z : lZ A c s H J h) (hi : lInv t h) : zPa d mX11_box [.inr (.inr (some 0)), .inl x, .inl y] h (fun v _ => v = some (.inl (boV A s x y))) := by
  intro N
  have h1 := hi.2.2.2.2.1
  have hA := z.1.1
  have hT := z.1.2.1
  have hB := z.1.2.2
  have hI := hA.1
  have hN := z.2.1.1
  have K := hA.2.2.2.1
  have hc2 : c = 2 ∨ c = 42 := hA.2.1
  obtain ⟨b1, b2, b3, b4, b5⟩ := hI.2.2.1
  have s0 : zsh h 0 = some (11, 16) := zsh_by h1 (by decide +kernel)
  obtain ⟨sc, sc1, sc2, sc4, sc5, scw, scb⟩ := cSh hA.2.1 h1
  obtain ⟨c9, c12, c13, cw, cb⟩ := cRf_of hi.1 hA.2.1
  have S := hi.nw
  obtain ⟨⟨s86, s87, s88, s89, s90, s91⟩, r87, r88, r89, r90, r91⟩ := S.o86
  have r3 := hA.2.2.1
  have r6 := S.2.1
  obtain ⟨n1, n2, n3, n4⟩ := z.2.2.1.1
  show zPn N none d mX11_box (0, [(0, .inr (.inr (some 0))), (1, .inl x), (2, .inl y)], [], h) _
  refine pa_aload_n (pc' := 1) dX11_box_0 rfl rfl ?_
  refine pa_iload_n (pc' := 2) dX11_box_1 rfl rfl ?_
  refine pa_callv (pc' := 5) (vs := [.inl x]) (rest := []) dX11_box_2 ml_11_147 (by decide) rfl rfl rfl (fun d' _ => (N_isBox hA h1)) (fun v g9 hq => ?_)
  obtain ⟨ev, eh⟩ := hq
  subst ev
  rw [eh]
  show zPn N none d mX11_box (5, _, [.inl (if 0 ≤ x.toInt ∧ x.toInt < (cB A:Int) then 1 else 0)], h) _
  by_cases hx : 0 ≤ x.toInt ∧ x.toInt < (cB A : Int)
  case neg =>
    rw [if_neg hx]
    refine pa_if_f (pc' := 8) dX11_box_5 (by decide) (by decide) rfl ?_
    refine pa_aload_n (pc' := 9) dX11_box_8 rfl rfl ?_
    refine pa_iconst (v := nI 1) (pc' := 10) dX11_box_9 (by decide) rfl ?_
    refine pa_callv (pc' := 13) (vs := [.inl (nI 1)]) (rest := []) dX11_box_10 ml_11_98 (by decide) rfl rfl rfl (fun d' _ => (c_ref s0)) (fun v g hq => ?_)
    obtain ⟨ev, eh⟩ := hq
    subst ev
    show zPn N none d mX11_box (13, _, [.inl ((-1))], g) _
    refine pa_iret dX11_box_13 rfl rfl ?_
    unfold boV
    rw [if_neg (fun q => hx q.1)]
  obtain ⟨w, rfl, hw, ew⟩ := nI_ob hx.1 hx.2
  rw [if_pos hx]
  refine pa_if_t (pc' := 14) dX11_box_5 (by decide) (by decide) ?_
  refine pa_iload_n (pc' := 15) dX11_box_14 rfl rfl ?_
  by_cases hy : 0 ≤ y.toInt ∧ y.toInt < 6
  case neg =>
    refine pa_switch (pc' := 148) dX11_box_15 (fun _ => rfl) (fun q => absurd (show y.toInt < 0 ∨ 5 < y.toInt by omega) q) ?_
    refine pa_aload_n (pc' := 149) dX11_box_148 rfl rfl ?_
    refine pa_iconst (v := nI 1) (pc' := 150) dX11_box_149 (by decide) rfl ?_
    refine pa_callv (pc' := 153) (vs := [.inl (nI 1)]) (rest := []) dX11_box_150 ml_11_98 (by decide) rfl rfl rfl (fun d' _ => (c_ref s0)) (fun v g hq => ?_)
    obtain ⟨ev, eh⟩ := hq
    subst ev
    show zPn N none d mX11_box (153, _, [.inl ((-1))], g) _
    refine pa_iret dX11_box_153 rfl rfl ?_
    unfold boV
    rw [if_neg (fun q => hy q.2)]
  obtain ⟨q, rfl, hq, eq⟩ := nI_ob (n := 6) hy.1 hy.2
  have V : boV A s (nI w) (nI q) = boF A s w q := by
    unfold boV
    rw [if_pos ⟨hx, hy⟩, ew, eq]
  rw [V]
  clear V eq
  have hq : q = 0 ∨ q = 1 ∨ q = 2 ∨ q = 3 ∨ q = 4 ∨ q = 5 := by omega
  rcases hq with rfl | rfl | rfl | rfl | rfl | rfl
  · refine pa_switch (pc' := 52) dX11_box_15 (fun e => absurd e (by decide)) (fun _ => ⟨37, by decide, rfl⟩) ?_
    have sb := scb w (by omega)
    have rb := cb w (by omega)
    have q : h.2.1 (c + 24 + w) 0 = nI (nu A (127 + 4 * w)) := by
      rw [K.bo hT hI hw (by decide), (num_box hI hB hT hw).2.2.2.2 0 (by decide)]
      exact congrArg (fun v => nI (nu A v)) (by omega)
    refine pa_aload_n (pc' := 53) dX11_box_52 rfl rfl ?_
    refine pa_aload_n (pc' := 54) dX11_box_53 rfl rfl ?_
    refine pa_getR (pc' := 57) (n := 16) (r := c) dX11_box_54 fl_11_23 s0 (by decide) r3 rfl ?_
    refine pa_getR (pc' := 60) (n := 15) (r := c + 5) dX11_box_57 fl_11_150 sc (by decide) c13 rfl ?_
    refine pa_iload_n (pc' := 61) dX11_box_60 rfl rfl ?_
    refine pa_aald (pc' := 62) (r := c + 24 + w) dX11_box_61 sc5 (by decide) (zn_in (by omega) (by omega)) (by rw [nI_clamp (by omega)]; exact rb) rfl ?_
    refine pa_getI (pc' := 65) (n := 4) (v := nI (nu A (127 + 4 * w))) dX11_box_62 fl_11_154 sb (by decide) q rfl ?_
    refine pa_callv (pc' := 68) (vs := [.inl (nI (nu A (127 + 4 * w)))]) (rest := []) dX11_box_65 ml_11_112 (by decide) rfl rfl rfl (fun d' _ => (c_gra s0)) (fun v g hq => ?_)
    obtain ⟨ev, eh⟩ := hq
    subst ev
    show zPn N none d mX11_box (68, _, [.inl (nI ((nu A (127 + 4 * w))))], g) _
    refine pa_iret dX11_box_68 rfl rfl ?_
    rfl
  · refine pa_switch (pc' := 69) dX11_box_15 (fun e => absurd e (by decide)) (fun _ => ⟨54, by decide, rfl⟩) ?_
    have sb := scb w (by omega)
    have rb := cb w (by omega)
    have q : h.2.1 (c + 24 + w) 1 = nI (nu A (128 + 4 * w)) := by
      rw [K.bo hT hI hw (by decide), (num_box hI hB hT hw).2.2.2.2 1 (by decide)]
      exact congrArg (fun v => nI (nu A v)) (by omega)
    refine pa_aload_n (pc' := 70) dX11_box_69 rfl rfl ?_
    refine pa_aload_n (pc' := 71) dX11_box_70 rfl rfl ?_
    refine pa_getR (pc' := 74) (n := 16) (r := c) dX11_box_71 fl_11_23 s0 (by decide) r3 rfl ?_
    refine pa_getR (pc' := 77) (n := 15) (r := c + 5) dX11_box_74 fl_11_150 sc (by decide) c13 rfl ?_
    refine pa_iload_n (pc' := 78) dX11_box_77 rfl rfl ?_
    refine pa_aald (pc' := 79) (r := c + 24 + w) dX11_box_78 sc5 (by decide) (zn_in (by omega) (by omega)) (by rw [nI_clamp (by omega)]; exact rb) rfl ?_
    refine pa_getI (pc' := 82) (n := 4) (v := nI (nu A (128 + 4 * w))) dX11_box_79 fl_11_159 sb (by decide) q rfl ?_
    refine pa_callv (pc' := 85) (vs := [.inl (nI (nu A (128 + 4 * w)))]) (rest := []) dX11_box_82 ml_11_112 (by decide) rfl rfl rfl (fun d' _ => (c_gra s0)) (fun v g hq => ?_)
    obtain ⟨ev, eh⟩ := hq
    subst ev
    show zPn N none d mX11_box (85, _, [.inl (nI ((nu A (128 + 4 * w))))], g) _
    refine pa_iret dX11_box_85 rfl rfl ?_
    rfl
  · refine pa_switch (pc' := 86) dX11_box_15 (fun e => absurd e (by decide)) (fun _ => ⟨71, by decide, rfl⟩) ?_
    have sb := scb w (by omega)
    have rb := cb w (by omega)
    have q : h.2.1 (c + 24 + w) 2 = nI (nu A (129 + 4 * w)) := by
      rw [K.bo hT hI hw (by decide), (num_box hI hB hT hw).2.2.2.2 2 (by decide)]
      exact congrArg (fun v => nI (nu A v)) (by omega)
    refine pa_aload_n (pc' := 87) dX11_box_86 rfl rfl ?_
    refine pa_aload_n (pc' := 88) dX11_box_87 rfl rfl ?_
    refine pa_getR (pc' := 91) (n := 16) (r := c) dX11_box_88 fl_11_23 s0 (by decide) r3 rfl ?_
    refine pa_getR (pc' := 94) (n := 15) (r := c + 5) dX11_box_91 fl_11_150 sc (by decide) c13 rfl ?_
    refine pa_iload_n (pc' := 95) dX11_box_94 rfl rfl ?_
    refine pa_aald (pc' := 96) (r := c + 24 + w) dX11_box_95 sc5 (by decide) (zn_in (by omega) (by omega)) (by rw [nI_clamp (by omega)]; exact rb) rfl ?_
    refine pa_getI (pc' := 99) (n := 4) (v := nI (nu A (129 + 4 * w))) dX11_box_96 fl_11_162 sb (by decide) q rfl ?_
    refine pa_callv (pc' := 102) (vs := [.inl (nI (nu A (129 + 4 * w)))]) (rest := []) dX11_box_99 ml_11_112 (by decide) rfl rfl rfl (fun d' _ => (c_gra s0)) (fun v g hq => ?_)
    obtain ⟨ev, eh⟩ := hq
    subst ev
    show zPn N none d mX11_box (102, _, [.inl (nI ((nu A (129 + 4 * w))))], g) _
    refine pa_iret dX11_box_102 rfl rfl ?_
    rfl
  · refine pa_switch (pc' := 103) dX11_box_15 (fun e => absurd e (by decide)) (fun _ => ⟨88, by decide, rfl⟩) ?_
    have sb := scb w (by omega)
    have rb := cb w (by omega)
    have q : h.2.1 (c + 24 + w) 3 = nI (nu A (130 + 4 * w)) := by
      rw [K.bo hT hI hw (by decide), (num_box hI hB hT hw).2.2.2.2 3 (by decide)]
      exact congrArg (fun v => nI (nu A v)) (by omega)
    refine pa_aload_n (pc' := 104) dX11_box_103 rfl rfl ?_
    refine pa_aload_n (pc' := 105) dX11_box_104 rfl rfl ?_
    refine pa_getR (pc' := 108) (n := 16) (r := c) dX11_box_105 fl_11_23 s0 (by decide) r3 rfl ?_
    refine pa_getR (pc' := 111) (n := 15) (r := c + 5) dX11_box_108 fl_11_150 sc (by decide) c13 rfl ?_
    refine pa_iload_n (pc' := 112) dX11_box_111 rfl rfl ?_
    refine pa_aald (pc' := 113) (r := c + 24 + w) dX11_box_112 sc5 (by decide) (zn_in (by omega) (by omega)) (by rw [nI_clamp (by omega)]; exact rb) rfl ?_
    refine pa_getI (pc' := 116) (n := 4) (v := nI (nu A (130 + 4 * w))) dX11_box_113 fl_11_165 sb (by decide) q rfl ?_
    refine pa_callv (pc' := 119) (vs := [.inl (nI (nu A (130 + 4 * w)))]) (rest := []) dX11_box_116 ml_11_112 (by decide) rfl rfl rfl (fun d' _ => (c_gra s0)) (fun v g hq => ?_)
    obtain ⟨ev, eh⟩ := hq
    subst ev
    show zPn N none d mX11_box (119, _, [.inl (nI ((nu A (130 + 4 * w))))], g) _
    refine pa_iret dX11_box_119 rfl rfl ?_
    rfl
  · refine pa_switch (pc' := 120) dX11_box_15 (fun e => absurd e (by decide)) (fun _ => ⟨105, by decide, rfl⟩) ?_
    have q : h.2.1 89 w = sDy (s.2.2.2.2.1 w) := (n4 w hw).1
    refine pa_aload_n (pc' := 121) dX11_box_120 rfl rfl ?_
    refine pa_aload_n (pc' := 122) dX11_box_121 rfl rfl ?_
    refine pa_getR (pc' := 125) (n := 16) (r := 86) dX11_box_122 fl_11_42 s0 (by decide) r6 rfl ?_
    refine pa_getR (pc' := 128) (n := 7) (r := 89) dX11_box_125 fl_11_168 s86 (by decide) r89 rfl ?_
    refine pa_iload_n (pc' := 129) dX11_box_128 rfl rfl ?_
    refine pa_iald (pc' := 130) dX11_box_129 s89 rfl (fun _ => ?_)
    rw [nI_clamp (by omega), q]
    refine pa_callv (pc' := 133) (vs := [.inl (sDy (s.2.2.2.2.1 w))]) (rest := []) dX11_box_130 ml_11_112 (by decide) rfl rfl rfl (fun d' _ => (c_gra s0)) (fun v g hq => ?_)
    obtain ⟨ev, eh⟩ := hq
    subst ev
    show zPn N none d mX11_box (133, _, [.inl ((sDy (s.2.2.2.2.1 w)))], g) _
    refine pa_iret dX11_box_133 rfl rfl ?_
    rfl
  · refine pa_switch (pc' := 134) dX11_box_15 (fun e => absurd e (by decide)) (fun _ => ⟨119, by decide, rfl⟩) ?_
    have q : h.2.1 90 w = sGo (s.2.2.2.2.1 w) := (n4 w hw).2.1
    refine pa_aload_n (pc' := 135) dX11_box_134 rfl rfl ?_
    refine pa_aload_n (pc' := 136) dX11_box_135 rfl rfl ?_
    refine pa_getR (pc' := 139) (n := 16) (r := 86) dX11_box_136 fl_11_42 s0 (by decide) r6 rfl ?_
    refine pa_getR (pc' := 142) (n := 7) (r := 90) dX11_box_139 fl_11_171 s86 (by decide) r90 rfl ?_
    refine pa_iload_n (pc' := 143) dX11_box_142 rfl rfl ?_
    refine pa_iald (pc' := 144) dX11_box_143 s90 rfl (fun _ => ?_)
    rw [nI_clamp (by omega), q]
    refine pa_callv (pc' := 147) (vs := [.inl (sGo (s.2.2.2.2.1 w))]) (rest := []) dX11_box_144 ml_11_112 (by decide) rfl rfl rfl (fun d' _ => (c_gra s0)) (fun v g hq => ?_)
    obtain ⟨ev, eh⟩ := hq
    subst ev
    show zPn N none d mX11_box (147, _, [.inl ((sGo (s.2.2.2.2.1 w)))], g) _
    refine pa_iret dX11_box_147 rfl rfl ?_
    rfl
theorem N_whale12 (z : lZ A c s H J g) (m : lMid kk im t g h) : zPa d mX12_whale [.inr (.inr (some 196)), .inl x, .inl y] h (fun v _ => v = some (.inl (whV A s x y))) := by
  intro N
  have s196 : zsh h 196 = some (12, 39) := zsh_by m.2.1.2.2.2 (by decide +kernel)
  generalize eg : zsI (zsI h 196 0 0) 196 11 0 = h2
  have e2 : ∀ a k, a ≠ 196 → h2.2.1 a k = h.2.1 a k := fun a k ha => by rw [← eg, zsI_no (by omega), zsI_no (by omega)]
  have e3 : ∀ k, k ≠ 0 → k ≠ 11 → h2.2.1 196 k = h.2.1 196 k := fun k w1 w2 => by rw [← eg, zsI_no (by omega), zsI_no (by omega)]
  have h1 : h2.1 = hh_487.1 := by rw [← eg]; exact m.2.1.2.2.2
  have hA : lPA A c h2 := by rw [← eg]; exact (m.pa z.1.1).gd
  have B : cI A ≠ 0 → bgM A s h2 := fun ne => by rw [← eg]; exact (z.bm m ne).gd
  have er : h2.2.2.2.1 = h.2.2.2.1 := by rw [← eg]; rfl
  have q15 : h2.2.2.2.1 196 15 = some 199 := by rw [er]; exact m.r15
  have q17 : h2.2.2.2.1 196 17 = some 201 := by rw [er]; exact m.mw.2.1
  have z196 : zsh h2 196 = some (12, 39) := zsh_by h1 (by decide +kernel)
  have z199 : zsh h2 199 = some (14, 363) := zsh_by h1 (by decide +kernel)
  have z201 : zsh h2 201 = some (14, 76) := zsh_by h1 (by decide +kernel)
  have M : nMo A s 201 0 h2 := (z.lm m).1.1.fr (fun k => e2 _ _ (by decide))
  have hT := z.1.2.1
  have hB := z.1.2.2
  have hI := z.1.1.1
  have hN := z.2.1.1
  have k0 : (0 : Int32).toInt = 0 := by decide
  obtain ⟨b1, b2, b3, b4, b5⟩ := hI.2.2.1
  show zPn N none d mX12_whale (0, [(0, .inr (.inr (some 196))), (1, .inl x), (2, .inl y)], [], h) _
  refine pa_aload_n (pc' := 1) dX12_whale_0 rfl rfl ?_
  refine pa_callv (pc' := 4) (vs := []) (rest := []) dX12_whale_1 ml_12_167 (by decide) rfl rfl rfl (fun d' _ => (m_good s196)) (fun v h3 hq => ?_)
  obtain ⟨ev, eh⟩ := hq
  subst ev
  show zPn N none d mX12_whale (4, _, [], h3) _
  rw [eg] at eh
  subst eh
  refine pa_aload_n (pc' := 5) dX12_whale_4 rfl rfl ?_
  refine pa_iload_n (pc' := 6) dX12_whale_5 rfl rfl ?_
  refine pa_callv (pc' := 9) (vs := [.inl x]) (rest := []) dX12_whale_6 ml_12_268 (by decide) rfl rfl rfl (fun d' _ => (M_isWhale hA q15 h1)) (fun v g9 hq => ?_)
  obtain ⟨ev, eh⟩ := hq
  subst ev
  rw [eh]
  show zPn N none d mX12_whale (9, _, [.inl (if 0 ≤ x.toInt ∧ x.toInt < (cH A:Int) then 1 else 0)], h3) _
  by_cases hx : 0 ≤ x.toInt ∧ x.toInt < (cH A : Int)
  case neg =>
    rw [if_neg hx]
    refine pa_if_t (pc' := 21) dX12_whale_9 (by decide) (by decide) ?_
    refine pa_aload_n (pc' := 22) dX12_whale_21 rfl rfl ?_
    refine pa_iconst (v := nI 1) (pc' := 23) dX12_whale_22 (by decide) rfl ?_
    refine pa_callv (pc' := 26) (vs := [.inl (nI 1)]) (rest := []) dX12_whale_23 ml_12_170 (by decide) rfl rfl rfl (fun d' _ => (m_no z196)) (fun v g hq => ?_)
    obtain ⟨ev, eh⟩ := hq
    subst ev
    show zPn N none d mX12_whale (26, _, [.inl ((-1))], g) _
    refine pa_iret dX12_whale_26 rfl rfl ?_
    unfold whV
    rw [if_neg (fun q => hx q.1)]
  obtain ⟨w, rfl, hw, ew⟩ := nI_ob hx.1 hx.2
  rw [if_pos hx]
  refine pa_if_f (pc' := 12) dX12_whale_9 (by decide) (by decide) rfl ?_
  refine pa_iload_n (pc' := 13) dX12_whale_12 rfl rfl ?_
  refine pa_iconst (v := 0) (pc' := 14) dX12_whale_13 (by decide) rfl ?_
  refine pa_iconst (v := 4) (pc' := 15) dX12_whale_14 (by decide) rfl ?_
  refine pa_calls (pc' := 18) (kd := 1) (vs := [.inl y, .inl 0, .inl 4]) (rest := []) dX12_whale_15 ml_12_149 (.inl rfl) rfl rfl rfl (fun d' _ => in_v) (fun v g9 hq => ?_)
  obtain ⟨ev, eh⟩ := hq
  subst ev
  rw [eh]
  show zPn N none d mX12_whale (18, _, [.inl (if ((0 : Int32)).toInt ≤ (y).toInt ∧ (y).toInt ≤ ((4 : Int32)).toInt then 1 else 0)], h3) _
  rw [k0, show (4 : Int32).toInt = 4 by decide]
  by_cases hy : 0 ≤ y.toInt ∧ y.toInt ≤ 4
  case neg =>
    rw [if_neg hy]
    refine pa_if_f (pc' := 21) dX12_whale_18 (by decide) (by decide) rfl ?_
    refine pa_aload_n (pc' := 22) dX12_whale_21 rfl rfl ?_
    refine pa_iconst (v := nI 1) (pc' := 23) dX12_whale_22 (by decide) rfl ?_
    refine pa_callv (pc' := 26) (vs := [.inl (nI 1)]) (rest := []) dX12_whale_23 ml_12_170 (by decide) rfl rfl rfl (fun d' _ => (m_no z196)) (fun v g hq => ?_)
    obtain ⟨ev, eh⟩ := hq
    subst ev
    show zPn N none d mX12_whale (26, _, [.inl ((-1))], g) _
    refine pa_iret dX12_whale_26 rfl rfl ?_
    unfold whV
    rw [if_neg (fun q => hy (by omega))]
  rw [if_pos hy]
  have hy : 0 ≤ y.toInt ∧ y.toInt < 5 := by omega
  refine pa_if_t (pc' := 27) dX12_whale_18 (by decide) (by decide) ?_
  obtain ⟨q, rfl, hq, eq⟩ := nI_ob (n := 5) hy.1 hy.2
  have V : whV A s (nI w) (nI q) = whF A s w q := by
    unfold whV
    rw [if_pos ⟨hx, hy⟩, ew, eq]
  rw [V]
  clear V eq
  have B := B (hA.hasH hw)
  refine pa_iload_n (pc' := 28) dX12_whale_27 rfl rfl ?_
  have hq : q = 0 ∨ q = 1 ∨ q = 2 ∨ q = 3 ∨ q = 4 := by omega
  rcases hq with rfl | rfl | rfl | rfl | rfl
  · refine pa_switch (pc' := 56) dX12_whale_28 (fun e => absurd e (by decide)) (fun _ => ⟨28, by decide, rfl⟩) ?_
    refine pa_aload_n (pc' := 57) dX12_whale_56 rfl rfl ?_
    refine pa_iload_n (pc' := 58) dX12_whale_57 rfl rfl ?_
    refine pa_iconst (v := nI 0) (pc' := 59) dX12_whale_58 (by decide) rfl ?_
    refine pa_callv (pc' := 62) (vs := [.inl (nI w), .inl (nI 0)]) (rest := []) dX12_whale_59 ml_12_271 (by decide) rfl rfl rfl (fun d' _ => (M_ofWhale B hw (by decide))) (fun v g9 hq => ?_)
    obtain ⟨ev, eh⟩ := hq
    subst ev
    rw [eh]
    show zPn N none d mX12_whale (62, _, [.inl (vA A (107 + 4 * w + 0))], h3) _
    refine pa_iret dX12_whale_62 rfl rfl ?_
    rfl
  · refine pa_switch (pc' := 63) dX12_whale_28 (fun e => absurd e (by decide)) (fun _ => ⟨35, by decide, rfl⟩) ?_
    have q : h3.2.1 201 (2 + w) = nI (s.2.2.1 w) := by rw [← (M.2.2.1 w hw).1, Nat.zero_add]
    refine pa_aload_n (pc' := 64) dX12_whale_63 rfl rfl ?_
    refine pa_getR (pc' := 67) (n := 39) (r := 201) dX12_whale_64 fl_12_26 z196 (by decide) q17 rfl ?_
    refine pa_iconst (v := nI 2) (pc' := 68) dX12_whale_67 (by decide) rfl ?_
    refine pa_iload_n (pc' := 69) dX12_whale_68 rfl rfl ?_
    refine pa_iadd (pc' := 70) (v := nI (2 + w)) dX12_whale_69 (nI_add _ _) rfl ?_
    refine pa_iald (pc' := 71) dX12_whale_70 z201 rfl (fun _ => ?_)
    rw [nI_clamp (by omega), q]
    refine pa_iret dX12_whale_71 rfl rfl ?_
    rfl
  · refine pa_switch (pc' := 72) dX12_whale_28 (fun e => absurd e (by decide)) (fun _ => ⟨44, by decide, rfl⟩) ?_
    have q : h3.2.1 201 (7 + w) = nI (s.2.2.2.1 w) := by rw [← (M.2.2.1 w hw).2, Nat.zero_add]
    refine pa_aload_n (pc' := 73) dX12_whale_72 rfl rfl ?_
    refine pa_getR (pc' := 76) (n := 39) (r := 201) dX12_whale_73 fl_12_26 z196 (by decide) q17 rfl ?_
    refine pa_bipush (v := nI 7) (pc' := 78) dX12_whale_76 (by decide) rfl ?_
    refine pa_iload_n (pc' := 79) dX12_whale_78 rfl rfl ?_
    refine pa_iadd (pc' := 80) (v := nI (7 + w)) dX12_whale_79 (nI_add _ _) rfl ?_
    refine pa_iald (pc' := 81) dX12_whale_80 z201 rfl (fun _ => ?_)
    rw [nI_clamp (by omega), q]
    refine pa_iret dX12_whale_81 rfl rfl ?_
    rfl
  · refine pa_switch (pc' := 82) dX12_whale_28 (fun _ => rfl) (fun e => absurd (by decide) e) ?_
    refine pa_aload_n (pc' := 83) dX12_whale_82 rfl rfl ?_
    refine pa_iload_n (pc' := 84) dX12_whale_83 rfl rfl ?_
    refine pa_iload_n (pc' := 85) dX12_whale_84 rfl rfl ?_
    refine pa_iconst (v := nI 1) (pc' := 86) dX12_whale_85 (by decide) rfl ?_
    refine pa_isub (pc' := 87) (v := nI (3 - 1)) dX12_whale_86 (nI_sub (by omega)) rfl ?_
    refine pa_callv (pc' := 90) (vs := [.inl (nI w), .inl (nI (3 - 1))]) (rest := []) dX12_whale_87 ml_12_271 (by decide) rfl rfl rfl (fun d' _ => (M_ofWhale (j := 2) B hw (by decide))) (fun v g9 hq => ?_)
    obtain ⟨ev, eh⟩ := hq
    subst ev
    rw [eh]
    show zPn N none d mX12_whale (90, _, [.inl (vA A (107 + 4 * w + 2))], h3) _
    refine pa_iret dX12_whale_90 rfl rfl ?_
    rw [(num_whale hI hB hT hw).2.2.2.2 2 (by decide), show 107 + 4 * w + 2 = 109 + 4 * w by omega]
    rfl
  · refine pa_switch (pc' := 82) dX12_whale_28 (fun _ => rfl) (fun e => absurd (by decide) e) ?_
    refine pa_aload_n (pc' := 83) dX12_whale_82 rfl rfl ?_
    refine pa_iload_n (pc' := 84) dX12_whale_83 rfl rfl ?_
    refine pa_iload_n (pc' := 85) dX12_whale_84 rfl rfl ?_
    refine pa_iconst (v := nI 1) (pc' := 86) dX12_whale_85 (by decide) rfl ?_
    refine pa_isub (pc' := 87) (v := nI (4 - 1)) dX12_whale_86 (nI_sub (by omega)) rfl ?_
    refine pa_callv (pc' := 90) (vs := [.inl (nI w), .inl (nI (4 - 1))]) (rest := []) dX12_whale_87 ml_12_271 (by decide) rfl rfl rfl (fun d' _ => (M_ofWhale (j := 3) B hw (by decide))) (fun v g9 hq => ?_)
    obtain ⟨ev, eh⟩ := hq
    subst ev
    rw [eh]
    show zPn N none d mX12_whale (90, _, [.inl (vA A (107 + 4 * w + 3))], h3) _
    refine pa_iret dX12_whale_90 rfl rfl ?_
    rw [(num_whale hI hB hT hw).2.2.2.2 3 (by decide), show 107 + 4 * w + 3 = 110 + 4 * w by omega]
    rfl
theorem N_box12 (z : lZ A c s H J g) (m : lMid kk im t g h) : zPa d mX12_box [.inr (.inr (some 196)), .inl x, .inl y] h (fun v _ => v = some (.inl (boV A s x y))) := by
  intro N
  have s196 : zsh h 196 = some (12, 39) := zsh_by m.2.1.2.2.2 (by decide +kernel)
  generalize eg : zsI (zsI h 196 0 0) 196 11 0 = h2
  have e2 : ∀ a k, a ≠ 196 → h2.2.1 a k = h.2.1 a k := fun a k ha => by rw [← eg, zsI_no (by omega), zsI_no (by omega)]
  have e3 : ∀ k, k ≠ 0 → k ≠ 11 → h2.2.1 196 k = h.2.1 196 k := fun k w1 w2 => by rw [← eg, zsI_no (by omega), zsI_no (by omega)]
  have h1 : h2.1 = hh_487.1 := by rw [← eg]; exact m.2.1.2.2.2
  have hA : lPA A c h2 := by rw [← eg]; exact (m.pa z.1.1).gd
  have B : cI A ≠ 0 → bgM A s h2 := fun ne => by rw [← eg]; exact (z.bm m ne).gd
  have er : h2.2.2.2.1 = h.2.2.2.1 := by rw [← eg]; rfl
  have q15 : h2.2.2.2.1 196 15 = some 199 := by rw [er]; exact m.r15
  have q17 : h2.2.2.2.1 196 17 = some 201 := by rw [er]; exact m.mw.2.1
  have z196 : zsh h2 196 = some (12, 39) := zsh_by h1 (by decide +kernel)
  have z199 : zsh h2 199 = some (14, 363) := zsh_by h1 (by decide +kernel)
  have z201 : zsh h2 201 = some (14, 76) := zsh_by h1 (by decide +kernel)
  have M : nMo A s 201 0 h2 := (z.lm m).1.1.fr (fun k => e2 _ _ (by decide))
  have hT := z.1.2.1
  have hB := z.1.2.2
  have hI := z.1.1.1
  have hN := z.2.1.1
  have k0 : (0 : Int32).toInt = 0 := by decide
  obtain ⟨b1, b2, b3, b4, b5⟩ := hI.2.2.1
  show zPn N none d mX12_box (0, [(0, .inr (.inr (some 196))), (1, .inl x), (2, .inl y)], [], h) _
  refine pa_aload_n (pc' := 1) dX12_box_0 rfl rfl ?_
  refine pa_callv (pc' := 4) (vs := []) (rest := []) dX12_box_1 ml_12_167 (by decide) rfl rfl rfl (fun d' _ => (m_good s196)) (fun v h3 hq => ?_)
  obtain ⟨ev, eh⟩ := hq
  subst ev
  show zPn N none d mX12_box (4, _, [], h3) _
  rw [eg] at eh
  subst eh
  refine pa_aload_n (pc' := 5) dX12_box_4 rfl rfl ?_
  refine pa_iload_n (pc' := 6) dX12_box_5 rfl rfl ?_
  refine pa_callv (pc' := 9) (vs := [.inl x]) (rest := []) dX12_box_6 ml_12_274 (by decide) rfl rfl rfl (fun d' _ => (M_isBox hA q15 h1)) (fun v g9 hq => ?_)
  obtain ⟨ev, eh⟩ := hq
  subst ev
  rw [eh]
  show zPn N none d mX12_box (9, _, [.inl (if 0 ≤ x.toInt ∧ x.toInt < (cB A:Int) then 1 else 0)], h3) _
  by_cases hx : 0 ≤ x.toInt ∧ x.toInt < (cB A : Int)
  case neg =>
    rw [if_neg hx]
    refine pa_if_t (pc' := 21) dX12_box_9 (by decide) (by decide) ?_
    refine pa_aload_n (pc' := 22) dX12_box_21 rfl rfl ?_
    refine pa_iconst (v := nI 1) (pc' := 23) dX12_box_22 (by decide) rfl ?_
    refine pa_callv (pc' := 26) (vs := [.inl (nI 1)]) (rest := []) dX12_box_23 ml_12_170 (by decide) rfl rfl rfl (fun d' _ => (m_no z196)) (fun v g hq => ?_)
    obtain ⟨ev, eh⟩ := hq
    subst ev
    show zPn N none d mX12_box (26, _, [.inl ((-1))], g) _
    refine pa_iret dX12_box_26 rfl rfl ?_
    unfold boV
    rw [if_neg (fun q => hx q.1)]
  obtain ⟨w, rfl, hw, ew⟩ := nI_ob hx.1 hx.2
  rw [if_pos hx]
  refine pa_if_f (pc' := 12) dX12_box_9 (by decide) (by decide) rfl ?_
  refine pa_iload_n (pc' := 13) dX12_box_12 rfl rfl ?_
  refine pa_iconst (v := 0) (pc' := 14) dX12_box_13 (by decide) rfl ?_
  refine pa_iconst (v := 5) (pc' := 15) dX12_box_14 (by decide) rfl ?_
  refine pa_calls (pc' := 18) (kd := 1) (vs := [.inl y, .inl 0, .inl 5]) (rest := []) dX12_box_15 ml_12_149 (.inl rfl) rfl rfl rfl (fun d' _ => in_v) (fun v g9 hq => ?_)
  obtain ⟨ev, eh⟩ := hq
  subst ev
  rw [eh]
  show zPn N none d mX12_box (18, _, [.inl (if ((0 : Int32)).toInt ≤ (y).toInt ∧ (y).toInt ≤ ((5 : Int32)).toInt then 1 else 0)], h3) _
  rw [k0, show (5 : Int32).toInt = 5 by decide]
  by_cases hy : 0 ≤ y.toInt ∧ y.toInt ≤ 5
  case neg =>
    rw [if_neg hy]
    refine pa_if_f (pc' := 21) dX12_box_18 (by decide) (by decide) rfl ?_
    refine pa_aload_n (pc' := 22) dX12_box_21 rfl rfl ?_
    refine pa_iconst (v := nI 1) (pc' := 23) dX12_box_22 (by decide) rfl ?_
    refine pa_callv (pc' := 26) (vs := [.inl (nI 1)]) (rest := []) dX12_box_23 ml_12_170 (by decide) rfl rfl rfl (fun d' _ => (m_no z196)) (fun v g hq => ?_)
    obtain ⟨ev, eh⟩ := hq
    subst ev
    show zPn N none d mX12_box (26, _, [.inl ((-1))], g) _
    refine pa_iret dX12_box_26 rfl rfl ?_
    unfold boV
    rw [if_neg (fun q => hy (by omega))]
  rw [if_pos hy]
  have hy : 0 ≤ y.toInt ∧ y.toInt < 6 := by omega
  refine pa_if_t (pc' := 27) dX12_box_18 (by decide) (by decide) ?_
  obtain ⟨q, rfl, hq, eq⟩ := nI_ob (n := 6) hy.1 hy.2
  have V : boV A s (nI w) (nI q) = boF A s w q := by
    unfold boV
    rw [if_pos ⟨hx, hy⟩, ew, eq]
  rw [V]
  clear V eq
  have B := B (hA.has hw)
  have d1 : h3.2.1 201 (12 + w) = tDy (s.2.2.2.2.1 w) := by rw [← (M.2.2.2 w hw).1, Nat.zero_add]
  have d2 : h3.2.1 201 (20 + w) = tGo (s.2.2.2.2.1 w) := by rw [← (M.2.2.2 w hw).2.1, Nat.zero_add]
  have oc := (hN.2.2 w hw).2.2
  refine pa_iload_n (pc' := 28) dX12_box_27 rfl rfl ?_
  refine pa_iconst (v := nI 4) (pc' := 29) dX12_box_28 (by decide) rfl ?_
  have fin : ∀ (v : Int32) (u : Option Nat) (N : Nat) (ls : zL), (match u with | some p => v = nI (p + 1) ∧ p ≤ 1000000 | none => v = 0) → zget ls 3 = some (.inl v) → zPn N none d mX12_box (66, ls, [], h3) (fun v' _ => v' = some (.inl (match u with | some p => nI p | none => -2))) := fun v u N ls hv l3 => by
    refine pa_iload_n (pc' := 67) dX12_box_66 l3 rfl ?_
    cases u with
    | none =>
      have hv : v = 0 := hv
      refine pa_if_f (pc' := 70) dX12_box_67 (decide_eq_false (not_not_intro hv)) (by decide) rfl ?_
      refine pa_bipush (v := (-2)) (pc' := 72) dX12_box_70 (by decide) rfl ?_
      refine pa_goto (pc' := 78) dX12_box_72 (by decide) ?_
      refine pa_iret dX12_box_78 rfl rfl ?_
      rfl
    | some p =>
      obtain ⟨hv, hp⟩ : v = nI (p + 1) ∧ p ≤ 1000000 := hv
      subst hv
      refine pa_if_t (pc' := 75) dX12_box_67 (decide_eq_true (fun q => by have := congrArg Int32.toInt q; rw [nI_toInt (by omega), k0] at this; omega)) (by decide) ?_
      refine pa_iload_n (pc' := 76) dX12_box_75 l3 rfl ?_
      refine pa_iconst (v := nI 1) (pc' := 77) dX12_box_76 (by decide) rfl ?_
      refine pa_isub (pc' := 78) (v := nI ((p + 1) - 1)) dX12_box_77 (nI_sub (by omega)) rfl ?_
      refine pa_iret dX12_box_78 rfl rfl ?_
      rw [Nat.add_sub_cancel]
  have hq : q < 4 ∨ q = 4 ∨ q = 5 := by omega
  rcases hq with hq4 | rfl | rfl
  · refine pa_icmp_f (pc' := 32) dX12_box_29 (zk_lt_ge (b := true) (zj_lt (by rw [nI_toInt (by omega), nI_toInt (by omega)]; omega))) (by decide) rfl ?_
    have e := (num_box hI hB hT hw).2.2.2.2 q hq4
    refine pa_aload_n (pc' := 33) dX12_box_32 rfl rfl ?_
    refine pa_iload_n (pc' := 34) dX12_box_33 rfl rfl ?_
    refine pa_iload_n (pc' := 35) dX12_box_34 rfl rfl ?_
    refine pa_callv (pc' := 38) (vs := [.inl (nI w), .inl (nI q)]) (rest := []) dX12_box_35 ml_12_262 (by decide) rfl rfl rfl (fun d' _ => (M_ofBox h1 q15 (by omega) hq4 ((B.2.2.2.2.2 w hw q hq4).trans e))) (fun v g9 hq => ?_)
    obtain ⟨ev, eh⟩ := hq
    subst ev
    rw [eh]
    show zPn N none d mX12_box (38, _, [.inl (nI (nu A (127 + 4 * w + q)))], h3) _
    refine pa_iret dX12_box_38 rfl rfl ?_
    have hq : q = 0 ∨ q = 1 ∨ q = 2 ∨ q = 3 := by omega
    rcases hq with rfl | rfl | rfl | rfl
    · rfl
    · show (some (Sum.inl (nI (nu A (127 + 4 * w + 1)))) : Option zV) = some (Sum.inl (nI (nu A (128 + 4 * w))))
      rw [show 127 + 4 * w + 1 = 128 + 4 * w by omega]
    · show (some (Sum.inl (nI (nu A (127 + 4 * w + 2)))) : Option zV) = some (Sum.inl (nI (nu A (129 + 4 * w))))
      rw [show 127 + 4 * w + 2 = 129 + 4 * w by omega]
    · show (some (Sum.inl (nI (nu A (127 + 4 * w + 3)))) : Option zV) = some (Sum.inl (nI (nu A (130 + 4 * w))))
      rw [show 127 + 4 * w + 3 = 130 + 4 * w by omega]
  · refine pa_icmp_t (pc' := 39) dX12_box_29 (by decide) (by decide) ?_
    refine pa_iload_n (pc' := 40) dX12_box_39 rfl rfl ?_
    refine pa_iconst (v := nI 4) (pc' := 41) dX12_box_40 (by decide) rfl ?_
    refine pa_icmp_f (pc' := 44) dX12_box_41 (by decide) (by decide) rfl ?_
    refine pa_aload_n (pc' := 45) dX12_box_44 rfl rfl ?_
    refine pa_getR (pc' := 48) (n := 39) (r := 201) dX12_box_45 fl_12_26 z196 (by decide) q17 rfl ?_
    refine pa_bipush (v := nI 12) (pc' := 50) dX12_box_48 (by decide) rfl ?_
    refine pa_iload_n (pc' := 51) dX12_box_50 rfl rfl ?_
    refine pa_iadd (pc' := 52) (v := nI (12 + w)) dX12_box_51 (nI_add _ _) rfl ?_
    refine pa_iald (pc' := 53) dX12_box_52 z201 rfl (fun _ => ?_)
    rw [nI_clamp (by omega), d1]
    refine pa_goto (pc' := 65) dX12_box_53 (by decide) ?_
    refine pa_istore_n (pc' := 66) dX12_box_65 (by decide) rfl rfl ?_
    refine (fin _ ((s.2.2.2.2.1 w).map (fun p => p.1)) _ _ ?_ rfl).mono (fun v h' e => ?_)
    · cases o : s.2.2.2.2.1 w with
      | none => rfl
      | some p =>
        have := (oc p o).2
        have nb := nSn_le s (cB A)
        exact ⟨rfl, (by omega : p.1 ≤ 1000000)⟩
    · rw [e]
      show _ = (some (Sum.inl (sDy (s.2.2.2.2.1 w))) : Option zV)
      cases s.2.2.2.2.1 w <;> rfl
  · refine pa_icmp_t (pc' := 39) dX12_box_29 (by decide) (by decide) ?_
    refine pa_iload_n (pc' := 40) dX12_box_39 rfl rfl ?_
    refine pa_iconst (v := nI 4) (pc' := 41) dX12_box_40 (by decide) rfl ?_
    refine pa_icmp_t (pc' := 56) dX12_box_41 (by decide) (by decide) ?_
    refine pa_aload_n (pc' := 57) dX12_box_56 rfl rfl ?_
    refine pa_getR (pc' := 60) (n := 39) (r := 201) dX12_box_57 fl_12_26 z196 (by decide) q17 rfl ?_
    refine pa_bipush (v := nI 20) (pc' := 62) dX12_box_60 (by decide) rfl ?_
    refine pa_iload_n (pc' := 63) dX12_box_62 rfl rfl ?_
    refine pa_iadd (pc' := 64) (v := nI (20 + w)) dX12_box_63 (nI_add _ _) rfl ?_
    refine pa_iald (pc' := 65) dX12_box_64 z201 rfl (fun _ => ?_)
    rw [nI_clamp (by omega), d2]
    refine pa_istore_n (pc' := 66) dX12_box_65 (by decide) rfl rfl ?_
    refine (fin _ ((s.2.2.2.2.1 w).map (fun p => p.2)) _ _ ?_ rfl).mono (fun v h' e => ?_)
    · cases o : s.2.2.2.2.1 w with
      | none => rfl
      | some p =>
        have := (oc p o).1
        exact ⟨rfl, (by omega : p.2 ≤ 1000000)⟩
    · rw [e]
      show _ = (some (Sum.inl (sGo (s.2.2.2.2.1 w))) : Option zV)
      cases s.2.2.2.2.1 w <;> rfl
end AN1
/-! answers: the first that has it -/
/-- the first that has it -/
def fsF (p : Nat → Bool) : Nat → Option Nat
  | 0 => none
  | k + 1 => match fsF p k with
    | some j => some j
    | none => if p k = true then some k else none
def wvO : Option Nat → Int32
  | some k => nI k
  | none => -2
section AN13
variable {p : Nat → Bool} {n k m : Nat}
theorem fsF_s : fsF p (k + 1) = match fsF p k with | some j => some j | none => if p k = true then some k else none := rfl
theorem fsF_in : ∀ n, fsF p n = some k → k < n ∧ p k = true
  | 0, e => nomatch e
  | n + 1, e => by
    rw [fsF_s] at e
    cases o : fsF p n with
    | some j =>
      rw [o] at e
      have e : some j = some k := e
      obtain ⟨q1, q2⟩ := fsF_in n (o.trans e)
      exact ⟨by omega, q2⟩
    | none =>
      rw [o] at e
      have e : (if p n = true then some n else none) = some k := e
      by_cases q : p n = true
      · rw [if_pos q] at e
        have e := Option.some.inj e
        subst e
        exact ⟨by omega, q⟩
      · rw [if_neg q] at e
        exact nomatch e
theorem fsF_no : ∀ n, fsF p n = none → ∀ i, i < n → ¬ p i = true
  | 0, _, i, hi => absurd hi (Nat.not_lt_zero i)
  | n + 1, e, i, hi => by
    rw [fsF_s] at e
    cases o : fsF p n with
    | some j =>
      rw [o] at e
      exact nomatch e
    | none =>
      rw [o] at e
      have e : (if p n = true then some n else none) = none := e
      by_cases z : i = n
      · subst z
        intro q
        rw [if_pos q] at e
        exact nomatch e
      · exact fsF_no n o i (by omega)
theorem fsF_hit (e : fsF p n = none) (q : p n = true) : fsF p (n + 1) = some n := by
  rw [fsF_s, e]
  exact if_pos q
theorem fsF_nx (e : fsF p n = none) (q : ¬ p n = true) : fsF p (n + 1) = none := by
  rw [fsF_s, e]
  exact if_neg q
theorem fsF_st (e : fsF p n = some k) : ∀ m, n ≤ m → fsF p m = some k
  | 0, hm => by
    have : n = 0 := by omega
    rw [← this]
    exact e
  | m + 1, hm => by
    by_cases z : n = m + 1
    · rw [← z]
      exact e
    · rw [fsF_s, fsF_st e m (by omega)]
end AN13
section AN13b
variable {d : Nat} {h : zH}
theorem N_inZ {z q : Int32} : zPa d mX11_isWithin [.inl z, .inl q] h (fun v g => v = some (.inl (if 0 ≤ z.toInt ∧ z.toInt ≤ q.toInt then 1 else 0)) ∧ g = h) := by
  intro N
  have k0 : (0 : Int32).toInt = 0 := by decide
  have e13 : ¬ (0 ≤ z.toInt ∧ z.toInt ≤ q.toInt) → ∀ N, zPn N none d mX11_isWithin (13, [(0, .inl z), (1, .inl q)], [], h) (fun v g => v = some (.inl (if 0 ≤ z.toInt ∧ z.toInt ≤ q.toInt then 1 else 0)) ∧ g = h) := fun w N => by
    refine pa_iconst (v := 0) (pc' := 14) dX11_isWithin_13 (by decide) rfl ?_
    refine pa_iret dX11_isWithin_14 rfl rfl ?_
    exact ⟨by rw [if_neg w], rfl⟩
  show zPn N none d mX11_isWithin (0, [(0, .inl z), (1, .inl q)], [], h) _
  refine pa_iload_n (pc' := 1) dX11_isWithin_0 rfl rfl ?_
  refine pa_if (pc' := 13) (pc2 := 4) dX11_isWithin_1 (by decide) rfl (fun w => ?_) (fun w => ?_)
  · have w := zi_lt w
    rw [k0] at w
    exact e13 (by omega) _
  · have w := zi_nlt w
    rw [k0] at w
    refine pa_iload_n (pc' := 5) dX11_isWithin_4 rfl rfl ?_
    refine pa_iload_n (pc' := 6) dX11_isWithin_5 rfl rfl ?_
    refine pa_icmp (pc' := 13) (pc2 := 9) dX11_isWithin_6 (by decide) rfl (fun u => ?_) (fun u => ?_)
    · have u := lt_i.mp (of_decide_eq_true u)
      exact e13 (by omega) _
    · have u := of_decide_eq_false u
      rw [lt_i] at u
      refine pa_iconst (v := 1) (pc' := 10) dX11_isWithin_9 (by decide) rfl ?_
      refine pa_goto (pc' := 14) dX11_isWithin_10 (by decide) ?_
      refine pa_iret dX11_isWithin_14 rfl rfl ?_
      exact ⟨by rw [if_pos (by omega)], rfl⟩
end AN13b
/-! answers: way -/
/-- joined and open -/
def joF (A : pA) (cl : Int32) (a b k : Nat) : Bool := joinsB A.2.2.2.1 a b k && !clB cl k
def wvM : Option Nat → Int32
  | some k => nI k
  | none => -1
def wyR (A : pA) : Option Nat → Int32
  | some k => nI (dyA A k)
  | none => -2
def twI (A : pA) (x y : Int32) : Prop := ((0 ≤ x.toInt ∧ x.toInt < (cI A : Int)) ∧ 0 ≤ y.toInt ∧ y.toInt < (cI A : Int)) ∧ ¬ x = y
def twB (A : pA) (x y : Int32) : Bool := decide (((0 ≤ x.toInt ∧ x.toInt < (cI A : Int)) ∧ 0 ≤ y.toInt ∧ y.toInt < (cI A : Int)) ∧ ¬ x = y)
theorem twB_iff {A : pA} {x y : Int32} : twB A x y = true ↔ twI A x y := by
  unfold twB twI
  exact decide_eq_true_iff
def wyV (A : pA) (s : nS) (x y : Int32) : Int32 := if twB A x y = true then wyR A (fsF (joF A s.2.1 x.toInt.toNat y.toInt.toNat) (cW A)) else -1
section AN8
variable {t d N c a b k n m : Nat} {h g : zH} {A : pA} {s : nS} {H J : List nS} {x y cl : Int32} {kk : Bool} {im : Int32} {p : Nat → Bool}
theorem joins_ab : joinsB A.2.2.2.1 a b k = true ↔ (wa A k = a ∧ wb A k = b) ∨ (wa A k = b ∧ wb A k = a) := by
  rw [joinsB_iff, Prod.ext_iff, Prod.ext_iff]
  exact Iff.rfl
theorem joF_iff : joF A cl a b k = true ↔ joinsB A.2.2.2.1 a b k = true ∧ ¬ clB cl k = true := by
  unfold joF
  rw [Bool.and_eq_true, Bool.not_eq_true', Bool.not_eq_true]
theorem tU.un (u : tU A) (hi : n < cW A) (hj : m < cW A) (p : joinsB A.2.2.2.1 a b n = true) (q : joinsB A.2.2.2.1 a b m = true) : n = m := by
  refine u n m hi hj (joinsB_iff.mpr ?_)
  have p := joinsB_iff.mp p
  have q := joinsB_iff.mp q
  rcases q with q | q <;> rcases p with p | p <;> rw [p, q] <;> first | exact .inl rfl | exact .inr rfl
theorem wy_no (e : fsF (joinsB A.2.2.2.1 a b) (cW A) = none) : fsF (joF A cl a b) (cW A) = none := by
  cases o : fsF (joF A cl a b) (cW A) with
  | none => rfl
  | some k =>
    obtain ⟨q1, q2⟩ := fsF_in _ o
    exact absurd (joF_iff.mp q2).1 (fsF_no _ e k q1)
theorem wy_cl (u : tU A) (e : fsF (joinsB A.2.2.2.1 a b) (cW A) = some k) (q : clB cl k = true) : fsF (joF A cl a b) (cW A) = none := by
  cases o : fsF (joF A cl a b) (cW A) with
  | none => rfl
  | some j =>
    obtain ⟨q1, q2⟩ := fsF_in _ o
    obtain ⟨p1, p2⟩ := fsF_in _ e
    obtain ⟨r1, r2⟩ := joF_iff.mp q2
    have ej : j = k := u.un q1 p1 r1 p2
    rw [ej] at r2
    exact absurd q r2
theorem wy_op (u : tU A) (e : fsF (joinsB A.2.2.2.1 a b) (cW A) = some k) (q : ¬ clB cl k = true) : fsF (joF A cl a b) (cW A) = some k := by
  obtain ⟨p1, p2⟩ := fsF_in _ e
  cases o : fsF (joF A cl a b) (cW A) with
  | none => exact absurd (joF_iff.mpr ⟨p2, q⟩) (fsF_no _ o k p1)
  | some j =>
    obtain ⟨q1, q2⟩ := fsF_in _ o
    obtain ⟨r1, r2⟩ := joF_iff.mp q2
    rw [u.un q1 p1 r1 p2]
/-- the class -/
theorem N_areTwo (hA : lPA A c h) (h1 : h.1 = hh_487.1) : zPa d mX11_areTwoIslands [.inr (.inr (some 0)), .inl x, .inl y] h (fun v g => v = some (.inl (if twB A x y = true then 1 else 0)) ∧ g = h) := by
  intro N
  show zPn N none d mX11_areTwoIslands (0, [(0, .inr (.inr (some 0))), (1, .inl x), (2, .inl y)], [], h) _
  refine pa_aload_n (pc' := 1) dX11_areTwoIslands_0 rfl rfl ?_
  refine pa_iload_n (pc' := 2) dX11_areTwoIslands_1 rfl rfl ?_
  refine pa_callv (pc' := 5) (vs := [.inl x]) (rest := []) dX11_areTwoIslands_2 ml_11_174 (by decide) rfl rfl rfl (fun d' _ => (N_isI11 hA h1)) (fun v g9 hq => ?_)
  obtain ⟨ev, eh⟩ := hq
  subst ev
  rw [eh]
  show zPn N none d mX11_areTwoIslands (5, _, [.inl (if 0 ≤ (x).toInt ∧ (x).toInt < (cI A:Int) then 1 else 0)], h) _
  by_cases hx : 0 ≤ x.toInt ∧ x.toInt < (cI A : Int)
  case neg =>
    rw [if_neg hx]
    refine pa_if_t (pc' := 25) dX11_areTwoIslands_5 (by decide) (by decide) ?_
    refine pa_iconst (v := 0) (pc' := 26) dX11_areTwoIslands_25 (by decide) rfl ?_
    refine pa_iret dX11_areTwoIslands_26 rfl rfl ?_
    exact ⟨by rw [if_neg (fun q => hx (twB_iff.mp q).1.1)], rfl⟩
  rw [if_pos hx]
  refine pa_if_f (pc' := 8) dX11_areTwoIslands_5 (by decide) (by decide) rfl ?_
  refine pa_aload_n (pc' := 9) dX11_areTwoIslands_8 rfl rfl ?_
  refine pa_iload_n (pc' := 10) dX11_areTwoIslands_9 rfl rfl ?_
  refine pa_callv (pc' := 13) (vs := [.inl y]) (rest := []) dX11_areTwoIslands_10 ml_11_174 (by decide) rfl rfl rfl (fun d' _ => (N_isI11 hA h1)) (fun v g9 hq => ?_)
  obtain ⟨ev, eh⟩ := hq
  subst ev
  rw [eh]
  show zPn N none d mX11_areTwoIslands (13, _, [.inl (if 0 ≤ (y).toInt ∧ (y).toInt < (cI A:Int) then 1 else 0)], h) _
  by_cases hy : 0 ≤ y.toInt ∧ y.toInt < (cI A : Int)
  case neg =>
    rw [if_neg hy]
    refine pa_if_t (pc' := 25) dX11_areTwoIslands_13 (by decide) (by decide) ?_
    refine pa_iconst (v := 0) (pc' := 26) dX11_areTwoIslands_25 (by decide) rfl ?_
    refine pa_iret dX11_areTwoIslands_26 rfl rfl ?_
    exact ⟨by rw [if_neg (fun q => hy (twB_iff.mp q).1.2)], rfl⟩
  rw [if_pos hy]
  refine pa_if_f (pc' := 16) dX11_areTwoIslands_13 (by decide) (by decide) rfl ?_
  refine pa_iload_n (pc' := 17) dX11_areTwoIslands_16 rfl rfl ?_
  refine pa_iload_n (pc' := 18) dX11_areTwoIslands_17 rfl rfl ?_
  by_cases e : x = y
  · refine pa_icmp_t (pc' := 25) dX11_areTwoIslands_18 (decide_eq_true e) (by decide) ?_
    refine pa_iconst (v := 0) (pc' := 26) dX11_areTwoIslands_25 (by decide) rfl ?_
    refine pa_iret dX11_areTwoIslands_26 rfl rfl ?_
    exact ⟨by rw [if_neg (fun q => (twB_iff.mp q).2 e)], rfl⟩
  · refine pa_icmp_f (pc' := 21) dX11_areTwoIslands_18 (decide_eq_false e) (by decide) rfl ?_
    refine pa_iconst (v := 1) (pc' := 22) dX11_areTwoIslands_21 (by decide) rfl ?_
    refine pa_goto (pc' := 26) dX11_areTwoIslands_22 (by decide) ?_
    refine pa_iret dX11_areTwoIslands_26 rfl rfl ?_
    exact ⟨by rw [if_pos (twB_iff.mpr ⟨⟨hx, hy⟩, e⟩)], rfl⟩
theorem N_btw (B : bgC A c s h) (ha : a < 7) (hb : b < 7) : zPa d mX4_wayBetween [.inr (.inr (some c)), .inl (nI a), .inl (nI b)] h (fun v g => v = some (.inl (wvO (fsF (joinsB A.2.2.2.1 a b) (cW A)))) ∧ g = h) := by
  intro N
  obtain ⟨k1, k2, k3, ⟨-, -, -, rc11, rw0⟩, e5, kf⟩ := B.2.1
  have sc := B.sh.1
  have sc3 : zsh h (c + 3) = some (19, 12) := by
    rcases k2 with e | e <;> subst e <;> exact zsh_by k1 (by decide +kernel)
  have lp : ∀ (N j : Nat) (ls : zL), j ≤ cW A → fsF (joinsB A.2.2.2.1 a b) j = none → zget ls 0 = some (.inr (.inr (some c))) → zget ls 1 = some (.inl (nI a)) → zget ls 2 = some (.inl (nI b)) → zget ls 3 = some (.inl (nI j)) → zPn N none d mX4_wayBetween (2, ls, [], h) (fun v g => v = some (.inl (wvO (fsF (joinsB A.2.2.2.1 a b) (cW A)))) ∧ g = h) := by
    intro N
    induction N with
    | zero => intros; exact zPn.zero
    | succ N ih =>
      intro j ls hj hno hl0 hl1 hl2 hl3
      refine pa_iload_n (pc' := 3) dX4_wayBetween_2 hl3 rfl ?_
      refine pa_aload_n (pc' := 4) dX4_wayBetween_3 hl0 rfl ?_
      refine pa_getI (pc' := 7) (n := 15) (v := nI (cW A)) dX4_wayBetween_4 fl_4_62 sc (by decide) e5 rfl ?_
      refine pa_icmp (pc' := 82) (pc2 := 10) dX4_wayBetween_7 (by decide) rfl (fun z => ?_) (fun z => ?_)
      · have z := zi_nlt (zk_ge_lt z)
        rw [nI_toInt (by omega), nI_toInt (by omega)] at z
        have ej : j = cW A := by omega
        subst ej
        refine pa_bipush (v := (-2)) (pc' := 84) dX4_wayBetween_82 (by decide) rfl ?_
        refine pa_iret dX4_wayBetween_84 rfl rfl ?_
        exact ⟨by rw [hno]; rfl, rfl⟩
      · have z := zi_lt (zk_ge_lt z)
        rw [nI_toInt (by omega), nI_toInt (by omega)] at z
        have hj : j < cW A := by omega
        obtain ⟨v1, v2, -, -, la, lb, -⟩ := kf j hj
        have sw := B.2.1.wy (k := j) (by omega)
        have rj := rw0 j (by omega)
        have hit : joinsB A.2.2.2.1 a b j = true → ∀ ls', zget ls' 3 = some (.inl (nI j)) → zPn (N + 1) none d mX4_wayBetween (74, ls', [], h) (fun v g => v = some (.inl (wvO (fsF (joinsB A.2.2.2.1 a b) (cW A)))) ∧ g = h) := fun q ls' l3 => by
          refine pa_iload_n (pc' := 75) dX4_wayBetween_74 l3 rfl ?_
          refine pa_iret dX4_wayBetween_75 rfl rfl ?_
          exact ⟨by rw [fsF_st (fsF_hit hno q) _ hj]; rfl, rfl⟩
        have nx : ¬ joinsB A.2.2.2.1 a b j = true → ∀ ls', zget ls' 0 = some (.inr (.inr (some c))) → zget ls' 1 = some (.inl (nI a)) → zget ls' 2 = some (.inl (nI b)) → zget ls' 3 = some (.inl (nI j)) → zPn (N + 1) none d mX4_wayBetween (76, ls', [], h) (fun v g => v = some (.inl (wvO (fsF (joinsB A.2.2.2.1 a b) (cW A)))) ∧ g = h) := fun q ls' l0 l1 l2 l3 => by
          refine pa_iinc (pc' := 79) (v := nI (j + 1)) dX4_wayBetween_76 l3 (by decide) (nI_add j 1) rfl rfl ?_
          refine pa_gotos (pc' := 2) dX4_wayBetween_79 (by decide) ?_
          exact ih (j + 1) _ (by omega) (fsF_nx hno q) (zget_s1 l0 (by decide) (by simp [zcat])) (zget_s1 l1 (by decide) (by simp [zcat])) (zget_s1 l2 (by decide) (by simp [zcat])) zget_s1e
        have two : ¬ (wa A j = a ∧ wb A j = b) → ∀ ls', zget ls' 0 = some (.inr (.inr (some c))) → zget ls' 1 = some (.inl (nI a)) → zget ls' 2 = some (.inl (nI b)) → zget ls' 3 = some (.inl (nI j)) → zPn (N + 1) none d mX4_wayBetween (48, ls', [], h) (fun v g => v = some (.inl (wvO (fsF (joinsB A.2.2.2.1 a b) (cW A)))) ∧ g = h) := fun q ls' l0 l1 l2 l3 => by
          refine pa_aload_n (pc' := 49) dX4_wayBetween_48 l0 rfl ?_
          refine pa_getR (pc' := 52) (n := 15) (r := c + 3) dX4_wayBetween_49 fl_4_20 sc (by decide) rc11 rfl ?_
          refine pa_iload_n (pc' := 53) dX4_wayBetween_52 l3 rfl ?_
          refine pa_aald (pc' := 54) (r := c + 7 + j) dX4_wayBetween_53 sc3 (by decide) (zn_in (by omega) (by omega)) (by rw [nI_clamp (by omega)]; exact rj) rfl ?_
          refine pa_getI (pc' := 57) (n := 4) (v := nI (wa A j)) dX4_wayBetween_54 fl_4_77 sw (by decide) v1 rfl ?_
          refine pa_iload_n (pc' := 58) dX4_wayBetween_57 l2 rfl ?_
          by_cases e1 : wa A j = b
          · refine pa_icmp_f (pc' := 61) dX4_wayBetween_58 (decide_eq_false (not_not_intro (by rw [e1]))) (by decide) rfl ?_
            refine pa_aload_n (pc' := 62) dX4_wayBetween_61 l0 rfl ?_
            refine pa_getR (pc' := 65) (n := 15) (r := c + 3) dX4_wayBetween_62 fl_4_20 sc (by decide) rc11 rfl ?_
            refine pa_iload_n (pc' := 66) dX4_wayBetween_65 l3 rfl ?_
            refine pa_aald (pc' := 67) (r := c + 7 + j) dX4_wayBetween_66 sc3 (by decide) (zn_in (by omega) (by omega)) (by rw [nI_clamp (by omega)]; exact rj) rfl ?_
            refine pa_getI (pc' := 70) (n := 4) (v := nI (wb A j)) dX4_wayBetween_67 fl_4_80 sw (by decide) v2 rfl ?_
            refine pa_iload_n (pc' := 71) dX4_wayBetween_70 l1 rfl ?_
            by_cases e2 : wb A j = a
            · refine pa_icmp_f (pc' := 74) dX4_wayBetween_71 (decide_eq_false (not_not_intro (by rw [e2]))) (by decide) rfl ?_
              exact hit (joins_ab.mpr (.inr ⟨e1, e2⟩)) ls' l3
            · refine pa_icmp_t (pc' := 76) dX4_wayBetween_71 (decide_eq_true (fun v => e2 ((nI_eq (by omega) (by omega)).mp v))) (by decide) ?_
              exact nx (fun v => (joins_ab.mp v).elim q (fun w => e2 w.2)) ls' l0 l1 l2 l3
          · refine pa_icmp_t (pc' := 76) dX4_wayBetween_58 (decide_eq_true (fun v => e1 ((nI_eq (by omega) (by omega)).mp v))) (by decide) ?_
            exact nx (fun v => (joins_ab.mp v).elim q (fun w => e1 w.1)) ls' l0 l1 l2 l3
        refine pa_aload_n (pc' := 11) dX4_wayBetween_10 hl0 rfl ?_
        refine pa_getR (pc' := 14) (n := 15) (r := c + 3) dX4_wayBetween_11 fl_4_20 sc (by decide) rc11 rfl ?_
        refine pa_iload_n (pc' := 15) dX4_wayBetween_14 hl3 rfl ?_
        refine pa_aald (pc' := 16) (r := c + 7 + j) dX4_wayBetween_15 sc3 (by decide) (zn_in (by omega) (by omega)) (by rw [nI_clamp (by omega)]; exact rj) rfl ?_
        refine pa_getI (pc' := 19) (n := 4) (v := nI (wa A j)) dX4_wayBetween_16 fl_4_77 sw (by decide) v1 rfl ?_
        refine pa_iload_n (pc' := 20) dX4_wayBetween_19 hl1 rfl ?_
        by_cases e1 : wa A j = a
        · refine pa_icmp_f (pc' := 23) dX4_wayBetween_20 (decide_eq_false (not_not_intro (by rw [e1]))) (by decide) rfl ?_
          refine pa_aload_n (pc' := 24) dX4_wayBetween_23 hl0 rfl ?_
          refine pa_getR (pc' := 27) (n := 15) (r := c + 3) dX4_wayBetween_24 fl_4_20 sc (by decide) rc11 rfl ?_
          refine pa_iload_n (pc' := 28) dX4_wayBetween_27 hl3 rfl ?_
          refine pa_aald (pc' := 29) (r := c + 7 + j) dX4_wayBetween_28 sc3 (by decide) (zn_in (by omega) (by omega)) (by rw [nI_clamp (by omega)]; exact rj) rfl ?_
          refine pa_getI (pc' := 32) (n := 4) (v := nI (wb A j)) dX4_wayBetween_29 fl_4_80 sw (by decide) v2 rfl ?_
          refine pa_iload_n (pc' := 33) dX4_wayBetween_32 hl2 rfl ?_
          by_cases e2 : wb A j = b
          · refine pa_icmp_f (pc' := 36) dX4_wayBetween_33 (decide_eq_false (not_not_intro (by rw [e2]))) (by decide) rfl ?_
            refine pa_iconst (v := nI 1) (pc' := 37) dX4_wayBetween_36 (by decide) rfl ?_
            refine pa_goto (pc' := 41) dX4_wayBetween_37 (by decide) ?_
            refine pa_istore (pc' := 43) dX4_wayBetween_41 (by decide) rfl rfl ?_
            refine pa_iload (pc' := 45) dX4_wayBetween_43 zget_s1e rfl ?_
            refine pa_if_t (pc' := 74) dX4_wayBetween_45 (by decide) (by decide) ?_
            exact hit (joins_ab.mpr (.inl ⟨e1, e2⟩)) _ (zget_s1 hl3 (by decide) (by simp [zcat]))
          · refine pa_icmp_t (pc' := 40) dX4_wayBetween_33 (decide_eq_true (fun v => e2 ((nI_eq (by omega) (by omega)).mp v))) (by decide) ?_
            refine pa_iconst (v := nI 0) (pc' := 41) dX4_wayBetween_40 (by decide) rfl ?_
            refine pa_istore (pc' := 43) dX4_wayBetween_41 (by decide) rfl rfl ?_
            refine pa_iload (pc' := 45) dX4_wayBetween_43 zget_s1e rfl ?_
            refine pa_if_f (pc' := 48) dX4_wayBetween_45 (by decide) (by decide) rfl ?_
            exact two (fun w => e2 w.2) _ (zget_s1 hl0 (by decide) (by simp [zcat])) (zget_s1 hl1 (by decide) (by simp [zcat])) (zget_s1 hl2 (by decide) (by simp [zcat])) (zget_s1 hl3 (by decide) (by simp [zcat]))
        · refine pa_icmp_t (pc' := 40) dX4_wayBetween_20 (decide_eq_true (fun v => e1 ((nI_eq (by omega) (by omega)).mp v))) (by decide) ?_
          refine pa_iconst (v := nI 0) (pc' := 41) dX4_wayBetween_40 (by decide) rfl ?_
          refine pa_istore (pc' := 43) dX4_wayBetween_41 (by decide) rfl rfl ?_
          refine pa_iload (pc' := 45) dX4_wayBetween_43 zget_s1e rfl ?_
          refine pa_if_f (pc' := 48) dX4_wayBetween_45 (by decide) (by decide) rfl ?_
          exact two (fun w => e1 w.1) _ (zget_s1 hl0 (by decide) (by simp [zcat])) (zget_s1 hl1 (by decide) (by simp [zcat])) (zget_s1 hl2 (by decide) (by simp [zcat])) (zget_s1 hl3 (by decide) (by simp [zcat]))
  show zPn N none d mX4_wayBetween (0, [(0, .inr (.inr (some c))), (1, .inl (nI a)), (2, .inl (nI b))], [], h) _
  refine pa_iconst (v := nI 0) (pc' := 1) dX4_wayBetween_0 (by decide) rfl ?_
  refine pa_istore_n (pc' := 2) dX4_wayBetween_1 (by decide) rfl rfl ?_
  exact lp _ 0 _ (Nat.zero_le _) rfl rfl rfl rfl rfl
theorem N_way11 (z : lZ A c s H J h) (hi : lInv t h) (hx0 : lX A c s H J h) : zPa d mX11_way [.inr (.inr (some 0)), .inl x, .inl y] h (fun v _ => v = some (.inl (wyV A s x y))) := by
  intro N
  have h1 := hi.2.2.2.2.1
  have hA := z.1.1
  have hT := z.1.2.1
  have hB := z.1.2.2
  have hI := hA.1
  have hN := z.2.1.1
  have K := hA.2.2.2.1
  have hc2 : c = 2 ∨ c = 42 := hA.2.1
  obtain ⟨b1, b2, b3, b4, b5⟩ := hI.2.2.1
  have s0 : zsh h 0 = some (11, 16) := zsh_by h1 (by decide +kernel)
  obtain ⟨sc, sc1, sc2, sc4, sc5, scw, scb⟩ := cSh hA.2.1 h1
  obtain ⟨c9, c12, c13, cw, cb⟩ := cRf_of hi.1 hA.2.1
  have S := hi.nw
  obtain ⟨⟨s86, s87, s88, s89, s90, s91⟩, r87, r88, r89, r90, r91⟩ := S.o86
  have r3 := hA.2.2.1
  have r6 := S.2.1
  obtain ⟨n1, n2, n3, n4⟩ := z.2.2.1.1
  have u := hx0.1
  show zPn N none d mX11_way (0, [(0, .inr (.inr (some 0))), (1, .inl x), (2, .inl y)], [], h) _
  refine pa_aload_n (pc' := 1) dX11_way_0 rfl rfl ?_
  refine pa_iload_n (pc' := 2) dX11_way_1 rfl rfl ?_
  refine pa_iload_n (pc' := 3) dX11_way_2 rfl rfl ?_
  refine pa_callv (pc' := 6) (vs := [.inl x, .inl y]) (rest := []) dX11_way_3 ml_11_204 (by decide) rfl rfl rfl (fun d' _ => (N_areTwo hA h1)) (fun v g9 hq => ?_)
  obtain ⟨ev, eh⟩ := hq
  subst ev
  rw [eh]
  show zPn N none d mX11_way (6, _, [.inl (if twB A x y = true then 1 else 0)], h) _
  by_cases hx : twB A x y = true
  case neg =>
    rw [if_neg hx]
    refine pa_if_f (pc' := 9) dX11_way_6 (by decide) (by decide) rfl ?_
    refine pa_aload_n (pc' := 10) dX11_way_9 rfl rfl ?_
    refine pa_iconst (v := nI 1) (pc' := 11) dX11_way_10 (by decide) rfl ?_
    refine pa_callv (pc' := 14) (vs := [.inl (nI 1)]) (rest := []) dX11_way_11 ml_11_98 (by decide) rfl rfl rfl (fun d' _ => (c_ref s0)) (fun v g hq => ?_)
    obtain ⟨ev, eh⟩ := hq
    subst ev
    show zPn N none d mX11_way (14, _, [.inl ((-1))], g) _
    refine pa_iret dX11_way_14 rfl rfl ?_
    unfold wyV
    rw [if_neg hx]
  rw [if_pos hx]
  have hw := twB_iff.mp hx
  obtain ⟨i, rfl, hi2, ei⟩ := nI_ob hw.1.1.1 hw.1.1.2
  obtain ⟨j, rfl, hj2, ej⟩ := nI_ob hw.1.2.1 hw.1.2.2
  have B := z.bc hi (show cI A ≠ 0 by omega)
  have V : wyV A s (nI i) (nI j) = wyR A (fsF (joF A s.2.1 i j) (cW A)) := by
    unfold wyV
    rw [if_pos hx, ei, ej]
  rw [V]
  refine pa_if_t (pc' := 15) dX11_way_6 (by decide) (by decide) ?_
  refine pa_aload_n (pc' := 16) dX11_way_15 rfl rfl ?_
  refine pa_getR (pc' := 19) (n := 16) (r := c) dX11_way_16 fl_11_23 s0 (by decide) r3 rfl ?_
  refine pa_iload_n (pc' := 20) dX11_way_19 rfl rfl ?_
  refine pa_iload_n (pc' := 21) dX11_way_20 rfl rfl ?_
  refine pa_callv (pc' := 24) (vs := [.inl (nI i), .inl (nI j)]) (rest := []) dX11_way_21 ml_11_207 (by decide) rfl rfl rfl (fun d' _ => (N_btw B (by omega) (by omega))) (fun v g9 hq => ?_)
  obtain ⟨ev, eh⟩ := hq
  subst ev
  rw [eh]
  show zPn N none d mX11_way (24, _, [.inl (wvO (fsF (joinsB A.2.2.2.1 i j) (cW A)))], h) _
  refine pa_istore_n (pc' := 25) dX11_way_24 (by decide) rfl rfl ?_
  refine pa_iload_n (pc' := 26) dX11_way_25 rfl rfl ?_
  refine pa_bipush (v := (-2)) (pc' := 28) dX11_way_26 (by decide) rfl ?_
  cases o : fsF (joinsB A.2.2.2.1 i j) (cW A) with
  | none =>
    refine pa_icmp_t (pc' := 42) dX11_way_28 (show zcond .eq (wvO none) (-2) = true by decide) (by decide) ?_
    refine pa_aload_n (pc' := 43) dX11_way_42 rfl rfl ?_
    refine pa_bipush (v := (-2)) (pc' := 45) dX11_way_43 (by decide) rfl ?_
    refine pa_callv (pc' := 48) (vs := [.inl ((-2))]) (rest := []) dX11_way_45 ml_11_112 (by decide) rfl rfl rfl (fun d' _ => (c_gra s0)) (fun v g9 hq => ?_)
    obtain ⟨ev, eh⟩ := hq
    subst ev
    show zPn N none d mX11_way (48, _, [.inl (((-2)))], g9) _
    refine pa_iret dX11_way_48 rfl rfl ?_
    rw [wy_no o]
    rfl
  | some k =>
    obtain ⟨hk, hkj⟩ := fsF_in _ o
    have nk2 : ¬ nI k = -2 := fun q => by
      have := congrArg Int32.toInt q
      rw [nI_toInt (by omega), show (-2 : Int32).toInt = -2 by decide] at this
      omega
    rw [show wvO (some k) = nI k from rfl]
    refine pa_icmp_f (pc' := 31) dX11_way_28 (decide_eq_false nk2) (by decide) rfl ?_
    refine pa_aload_n (pc' := 32) dX11_way_31 rfl rfl ?_
    refine pa_getR (pc' := 35) (n := 16) (r := 86) dX11_way_32 fl_11_42 s0 (by decide) r6 rfl ?_
    refine pa_iload_n (pc' := 36) dX11_way_35 rfl rfl ?_
    refine pa_callv (pc' := 39) (vs := [.inl (nI k)]) (rest := []) dX11_way_36 ml_11_210 (by decide) rfl rfl rfl (fun d' _ => (N_isClosed h1 n2)) (fun v g9 hq => ?_)
    obtain ⟨ev, eh⟩ := hq
    subst ev
    rw [eh]
    show zPn N none d mX11_way (39, _, [.inl (if clB s.2.1 k = true then 1 else 0)], h) _
    by_cases q : clB s.2.1 k = true
    · rw [if_pos q]
      refine pa_if_f (pc' := 42) dX11_way_39 (by decide) (by decide) rfl ?_
      refine pa_aload_n (pc' := 43) dX11_way_42 rfl rfl ?_
      refine pa_bipush (v := (-2)) (pc' := 45) dX11_way_43 (by decide) rfl ?_
      refine pa_callv (pc' := 48) (vs := [.inl ((-2))]) (rest := []) dX11_way_45 ml_11_112 (by decide) rfl rfl rfl (fun d' _ => (c_gra s0)) (fun v g9 hq => ?_)
      obtain ⟨ev, eh⟩ := hq
      subst ev
      show zPn N none d mX11_way (48, _, [.inl (((-2)))], g9) _
      refine pa_iret dX11_way_48 rfl rfl ?_
      rw [wy_cl u o q]
      rfl
    · have sy := B.2.1.wy (k := k) (by omega)
      have s3 : zsh h (c + 3) = some (19, 12) := by
        rcases hc2 with e | e <;> subst e <;> exact zsh_by h1 (by decide +kernel)
      have r11 := B.2.1.2.2.2.1.2.2.2.1
      have ry := B.2.1.2.2.2.1.2.2.2.2 k (by omega)
      have ed := (B.2.1.2.2.2.2.2 k hk).2.2.1
      rw [if_neg q]
      refine pa_if_t (pc' := 49) dX11_way_39 (by decide) (by decide) ?_
      refine pa_aload_n (pc' := 50) dX11_way_49 rfl rfl ?_
      refine pa_aload_n (pc' := 51) dX11_way_50 rfl rfl ?_
      refine pa_getR (pc' := 54) (n := 16) (r := c) dX11_way_51 fl_11_23 s0 (by decide) r3 rfl ?_
      refine pa_getR (pc' := 57) (n := 15) (r := c + 3) dX11_way_54 fl_11_213 sc (by decide) r11 rfl ?_
      refine pa_iload_n (pc' := 58) dX11_way_57 rfl rfl ?_
      refine pa_aald (pc' := 59) (r := c + 7 + k) dX11_way_58 s3 (by decide) (zn_in (by omega) (by omega)) (by rw [nI_clamp (by omega)]; exact ry) rfl ?_
      refine pa_getI (pc' := 62) (n := 4) (v := nI (dyA A k)) dX11_way_59 fl_11_217 sy (by decide) ed rfl ?_
      refine pa_callv (pc' := 65) (vs := [.inl (nI (dyA A k))]) (rest := []) dX11_way_62 ml_11_112 (by decide) rfl rfl rfl (fun d' _ => (c_gra s0)) (fun v g9 hq => ?_)
      obtain ⟨ev, eh⟩ := hq
      subst ev
      show zPn N none d mX11_way (65, _, [.inl (nI ((dyA A k)))], g9) _
      refine pa_iret dX11_way_65 rfl rfl ?_
      rw [wy_op u o q]
      rfl
/-- the reference -/
theorem M_joinsN {W : Nat} {a b dy : Nat → Nat} {op : Nat → Int32} {x y : Nat} (K : seM n W a b dy op cl h) (hk : k < W) (hx : x < 7) (hy : y < 7) : zPa d mX12_joins [.inr (.inr (some 199)), .inl (nI k), .inl (nI x), .inl (nI y)] h (fun v g => v = some (.inl (if (a k = x ∧ b k = y) ∨ (a k = y ∧ b k = x) then 1 else 0)) ∧ g = h) := by
  intro N
  have hW := K.2.2.1
  have s199 : zsh h 199 = some (14, 363) := zsh_by K.1 (by decide +kernel)
  obtain ⟨e0, e1, -, -, la, lb, -⟩ := K.2.2.2.2.2 k hk
  have yes : (a k = x ∧ b k = y) ∨ (a k = y ∧ b k = x) → ∀ ls, zPn N none d mX12_joins (46, ls, [], h) (fun v g => v = some (.inl (if (a k = x ∧ b k = y) ∨ (a k = y ∧ b k = x) then 1 else 0)) ∧ g = h) := fun q ls => by
    refine pa_iconst (v := 1) (pc' := 47) dX12_joins_46 (by decide) rfl ?_
    refine pa_goto (pc' := 51) dX12_joins_47 (by decide) ?_
    refine pa_iret dX12_joins_51 rfl rfl ?_
    exact ⟨by rw [if_pos q], rfl⟩
  have no : ¬ ((a k = x ∧ b k = y) ∨ (a k = y ∧ b k = x)) → ∀ ls, zPn N none d mX12_joins (50, ls, [], h) (fun v g => v = some (.inl (if (a k = x ∧ b k = y) ∨ (a k = y ∧ b k = x) then 1 else 0)) ∧ g = h) := fun q ls => by
    refine pa_iconst (v := 0) (pc' := 51) dX12_joins_50 (by decide) rfl ?_
    refine pa_iret dX12_joins_51 rfl rfl ?_
    exact ⟨by rw [if_neg q], rfl⟩
  have two : ¬ (a k = x ∧ b k = y) → ∀ ls, zget ls 2 = some (.inl (nI x)) → zget ls 3 = some (.inl (nI y)) → zget ls 4 = some (.inl (nI (a k))) → zget ls 5 = some (.inl (nI (b k))) → zPn N none d mX12_joins (34, ls, [], h) (fun v g => v = some (.inl (if (a k = x ∧ b k = y) ∨ (a k = y ∧ b k = x) then 1 else 0)) ∧ g = h) := fun q ls l2 l3 l4 l5 => by
    refine pa_iload (pc' := 36) dX12_joins_34 l4 rfl ?_
    refine pa_iload_n (pc' := 37) dX12_joins_36 l3 rfl ?_
    by_cases p1 : a k = y
    · refine pa_icmp_f (pc' := 40) dX12_joins_37 (decide_eq_false (not_not_intro (by rw [p1]))) (by decide) rfl ?_
      refine pa_iload (pc' := 42) dX12_joins_40 l5 rfl ?_
      refine pa_iload_n (pc' := 43) dX12_joins_42 l2 rfl ?_
      by_cases p2 : b k = x
      · refine pa_icmp_f (pc' := 46) dX12_joins_43 (decide_eq_false (not_not_intro (by rw [p2]))) (by decide) rfl ?_
        exact yes (.inr ⟨p1, p2⟩) _
      · refine pa_icmp_t (pc' := 50) dX12_joins_43 (decide_eq_true (fun v => p2 ((nI_eq (by omega) (by omega)).mp v))) (by decide) ?_
        exact no (fun v => v.elim q (fun w => p2 w.2)) _
    · refine pa_icmp_t (pc' := 50) dX12_joins_37 (decide_eq_true (fun v => p1 ((nI_eq (by omega) (by omega)).mp v))) (by decide) ?_
      exact no (fun v => v.elim q (fun w => p1 w.1)) _
  show zPn N none d mX12_joins (0, [(0, .inr (.inr (some 199))), (1, .inl (nI k)), (2, .inl (nI x)), (3, .inl (nI y))], [], h) _
  have e0' : h.2.1 199 (59 + 4 * k) = nI (a k) := e0
  refine pa_aload_n (pc' := 1) dX12_joins_0 rfl rfl ?_
  refine pa_bipush (v := nI 59) (pc' := 3) dX12_joins_1 (by decide) rfl ?_
  refine pa_iconst (v := nI 4) (pc' := 4) dX12_joins_3 (by decide) rfl ?_
  refine pa_iload_n (pc' := 5) dX12_joins_4 rfl rfl ?_
  refine pa_imul (pc' := 6) (v := nI (4 * k)) dX12_joins_5 (nI_mul _ _) rfl ?_
  refine pa_iadd (pc' := 7) (v := nI (59 + 4 * k)) dX12_joins_6 (nI_add _ _) rfl ?_
  refine pa_iald (pc' := 8) dX12_joins_7 s199 rfl (fun _ => ?_)
  rw [nI_clamp (by omega), e0']
  refine pa_istore (pc' := 10) dX12_joins_8 (by decide) rfl rfl ?_
  refine pa_aload_n (pc' := 11) dX12_joins_10 rfl rfl ?_
  refine pa_bipush (v := nI 59) (pc' := 13) dX12_joins_11 (by decide) rfl ?_
  refine pa_iconst (v := nI 4) (pc' := 14) dX12_joins_13 (by decide) rfl ?_
  refine pa_iload_n (pc' := 15) dX12_joins_14 rfl rfl ?_
  refine pa_imul (pc' := 16) (v := nI (4 * k)) dX12_joins_15 (nI_mul _ _) rfl ?_
  refine pa_iadd (pc' := 17) (v := nI (59 + 4 * k)) dX12_joins_16 (nI_add _ _) rfl ?_
  refine pa_iconst (v := nI 1) (pc' := 18) dX12_joins_17 (by decide) rfl ?_
  refine pa_iadd (pc' := 19) (v := nI (59 + 4 * k + 1)) dX12_joins_18 (nI_add _ _) rfl ?_
  refine pa_iald (pc' := 20) dX12_joins_19 s199 rfl (fun _ => ?_)
  rw [nI_clamp (by omega), e1]
  refine pa_istore (pc' := 22) dX12_joins_20 (by decide) rfl rfl ?_
  refine pa_iload (pc' := 24) dX12_joins_22 rfl rfl ?_
  refine pa_iload_n (pc' := 25) dX12_joins_24 rfl rfl ?_
  by_cases p1 : a k = x
  · refine pa_icmp_f (pc' := 28) dX12_joins_25 (decide_eq_false (not_not_intro (by rw [p1]))) (by decide) rfl ?_
    refine pa_iload (pc' := 30) dX12_joins_28 rfl rfl ?_
    refine pa_iload_n (pc' := 31) dX12_joins_30 rfl rfl ?_
    by_cases p2 : b k = y
    · refine pa_icmp_t (pc' := 46) dX12_joins_31 (decide_eq_true (by rw [p2])) (by decide) ?_
      exact yes (.inl ⟨p1, p2⟩) _
    · refine pa_icmp_f (pc' := 34) dX12_joins_31 (decide_eq_false (fun v => p2 ((nI_eq (by omega) (by omega)).mp v))) (by decide) rfl ?_
      exact two (fun w => p2 w.2) _ rfl rfl rfl rfl
  · refine pa_icmp_t (pc' := 34) dX12_joins_25 (decide_eq_true (fun v => p1 ((nI_eq (by omega) (by omega)).mp v))) (by decide) ?_
    exact two (fun w => p1 w.1) _ rfl rfl rfl rfl
theorem M_wayOf (B : bgM A s h) (ha : a < 7) (hb : b < 7) : zPa d mX12_wayOf [.inr (.inr (some 196)), .inl (nI a), .inl (nI b)] h (fun v g => v = some (.inl (wvM (fsF (joF A s.2.1 a b) (cW A)))) ∧ g = h) := by
  intro N
  have K := B.2.1
  have hW := K.2.2.1
  have s196 := sh_196' K.1
  have s199 : zsh h 199 = some (14, 363) := zsh_by K.1 (by decide +kernel)
  have r15 := K.2.2.2.1.1
  have e5 := K.2.2.2.2.1.2.1
  have lp : ∀ (N j : Nat) (ls : zL), j ≤ cW A → fsF (joF A s.2.1 a b) j = none → zget ls 0 = some (.inr (.inr (some 196))) → zget ls 1 = some (.inl (nI a)) → zget ls 2 = some (.inl (nI b)) → zget ls 3 = some (.inl (nI j)) → zPn N none d mX12_wayOf (2, ls, [], h) (fun v g => v = some (.inl (wvM (fsF (joF A s.2.1 a b) (cW A)))) ∧ g = h) := by
    intro N
    induction N with
    | zero => intros; exact zPn.zero
    | succ N ih =>
      intro j ls hj hno hl0 hl1 hl2 hl3
      refine pa_iload_n (pc' := 3) dX12_wayOf_2 hl3 rfl ?_
      refine pa_aload_n (pc' := 4) dX12_wayOf_3 hl0 rfl ?_
      refine pa_getR (pc' := 7) (n := 39) (r := 199) dX12_wayOf_4 fl_12_20 s196 (by decide) r15 rfl ?_
      refine pa_iconst (v := nI 5) (pc' := 8) dX12_wayOf_7 (by decide) rfl ?_
      refine pa_iald (pc' := 9) dX12_wayOf_8 s199 rfl (fun _ => ?_)
      rw [nI_clamp (by omega), e5]
      refine pa_icmp (pc' := 41) (pc2 := 12) dX12_wayOf_9 (by decide) rfl (fun z => ?_) (fun z => ?_)
      · have z := zi_nlt (zk_ge_lt z)
        rw [nI_toInt (by omega), nI_toInt (by omega)] at z
        have ej : j = cW A := by omega
        subst ej
        refine pa_iconst (v := (-1)) (pc' := 42) dX12_wayOf_41 (by decide) rfl ?_
        refine pa_iret dX12_wayOf_42 rfl rfl ?_
        exact ⟨by rw [hno]; rfl, rfl⟩
      · have z := zi_lt (zk_ge_lt z)
        rw [nI_toInt (by omega), nI_toInt (by omega)] at z
        have hj : j < cW A := by omega
        have nx : ¬ joF A s.2.1 a b j = true → zPn (N + 1) none d mX12_wayOf (35, ls, [], h) (fun v g => v = some (.inl (wvM (fsF (joF A s.2.1 a b) (cW A)))) ∧ g = h) := fun q => by
          refine pa_iinc (pc' := 38) (v := nI (j + 1)) dX12_wayOf_35 hl3 (by decide) (nI_add j 1) rfl rfl ?_
          refine pa_gotos (pc' := 2) dX12_wayOf_38 (by decide) ?_
          exact ih (j + 1) _ (by omega) (fsF_nx hno q) (zget_s1 hl0 (by decide) (by simp [zcat])) (zget_s1 hl1 (by decide) (by simp [zcat])) (zget_s1 hl2 (by decide) (by simp [zcat])) zget_s1e
        refine pa_aload_n (pc' := 13) dX12_wayOf_12 hl0 rfl ?_
        refine pa_getR (pc' := 16) (n := 39) (r := 199) dX12_wayOf_13 fl_12_20 s196 (by decide) r15 rfl ?_
        refine pa_iload_n (pc' := 17) dX12_wayOf_16 hl3 rfl ?_
        refine pa_iload_n (pc' := 18) dX12_wayOf_17 hl1 rfl ?_
        refine pa_iload_n (pc' := 19) dX12_wayOf_18 hl2 rfl ?_
        refine pa_calls (pc' := 22) (kd := 1) (vs := [.inr (.inr (some 199)), .inl (nI j), .inl (nI a), .inl (nI b)]) (rest := []) dX12_wayOf_19 ml_12_230 (.inl rfl) rfl rfl rfl (fun d' _ => (M_joinsN K hj ha hb)) (fun v g9 hq => ?_)
        obtain ⟨ev, eh⟩ := hq
        subst ev
        rw [eh]
        show zPn (N + 1) none d mX12_wayOf (22, _, [.inl (if (wa A j = a ∧ wb A j = b) ∨ (wa A j = b ∧ wb A j = a) then 1 else 0)], h) _
        by_cases q : joinsB A.2.2.2.1 a b j = true
        case neg =>
          rw [if_neg (fun p => q (joins_ab.mpr p))]
          refine pa_if_t (pc' := 35) dX12_wayOf_22 (by decide) (by decide) ?_
          exact nx (fun v => q (joF_iff.mp v).1)
        rw [if_pos (joins_ab.mp q)]
        refine pa_if_f (pc' := 25) dX12_wayOf_22 (by decide) (by decide) rfl ?_
        refine pa_aload_n (pc' := 26) dX12_wayOf_25 hl0 rfl ?_
        refine pa_iload_n (pc' := 27) dX12_wayOf_26 hl3 rfl ?_
        refine pa_callv (pc' := 30) (vs := [.inl (nI j)]) (rest := []) dX12_wayOf_27 ml_12_302 (by decide) rfl rfl rfl (fun d' _ => (M_isClosed K)) (fun v g9 hq => ?_)
        obtain ⟨ev, eh⟩ := hq
        subst ev
        rw [eh]
        show zPn (N + 1) none d mX12_wayOf (30, _, [.inl (if clB s.2.1 j = true then 1 else 0)], h) _
        by_cases o : clB s.2.1 j = true
        · rw [if_pos o]
          refine pa_if_t (pc' := 35) dX12_wayOf_30 (by decide) (by decide) ?_
          exact nx (fun v => (joF_iff.mp v).2 o)
        · rw [if_neg o]
          refine pa_if_f (pc' := 33) dX12_wayOf_30 (by decide) (by decide) rfl ?_
          refine pa_iload_n (pc' := 34) dX12_wayOf_33 hl3 rfl ?_
          refine pa_iret dX12_wayOf_34 rfl rfl ?_
          exact ⟨by rw [fsF_st (fsF_hit hno (joF_iff.mpr ⟨q, o⟩)) _ hj]; rfl, rfl⟩
  show zPn N none d mX12_wayOf (0, [(0, .inr (.inr (some 196))), (1, .inl (nI a)), (2, .inl (nI b))], [], h) _
  refine pa_iconst (v := nI 0) (pc' := 1) dX12_wayOf_0 (by decide) rfl ?_
  refine pa_istore_n (pc' := 2) dX12_wayOf_1 (by decide) rfl rfl ?_
  exact lp _ 0 _ (Nat.zero_le _) rfl rfl rfl rfl rfl
theorem N_way12 (z : lZ A c s H J g) (m : lMid kk im t g h) (hx0 : lX A c s H J g) : zPa d mX12_way [.inr (.inr (some 196)), .inl x, .inl y] h (fun v _ => v = some (.inl (wyV A s x y))) := by
  intro N
  have s196 : zsh h 196 = some (12, 39) := zsh_by m.2.1.2.2.2 (by decide +kernel)
  generalize eg : zsI (zsI h 196 0 0) 196 11 0 = h2
  have e2 : ∀ a k, a ≠ 196 → h2.2.1 a k = h.2.1 a k := fun a k ha => by rw [← eg, zsI_no (by omega), zsI_no (by omega)]
  have e3 : ∀ k, k ≠ 0 → k ≠ 11 → h2.2.1 196 k = h.2.1 196 k := fun k w1 w2 => by rw [← eg, zsI_no (by omega), zsI_no (by omega)]
  have h1 : h2.1 = hh_487.1 := by rw [← eg]; exact m.2.1.2.2.2
  have hA : lPA A c h2 := by rw [← eg]; exact (m.pa z.1.1).gd
  have B : cI A ≠ 0 → bgM A s h2 := fun ne => by rw [← eg]; exact (z.bm m ne).gd
  have er : h2.2.2.2.1 = h.2.2.2.1 := by rw [← eg]; rfl
  have q15 : h2.2.2.2.1 196 15 = some 199 := by rw [er]; exact m.r15
  have q17 : h2.2.2.2.1 196 17 = some 201 := by rw [er]; exact m.mw.2.1
  have z196 : zsh h2 196 = some (12, 39) := zsh_by h1 (by decide +kernel)
  have z199 : zsh h2 199 = some (14, 363) := zsh_by h1 (by decide +kernel)
  have z201 : zsh h2 201 = some (14, 76) := zsh_by h1 (by decide +kernel)
  have M : nMo A s 201 0 h2 := (z.lm m).1.1.fr (fun k => e2 _ _ (by decide))
  have hT := z.1.2.1
  have hB := z.1.2.2
  have hI := z.1.1.1
  have hN := z.2.1.1
  have k0 : (0 : Int32).toInt = 0 := by decide
  obtain ⟨b1, b2, b3, b4, b5⟩ := hI.2.2.1
  show zPn N none d mX12_way (0, [(0, .inr (.inr (some 196))), (1, .inl x), (2, .inl y)], [], h) _
  refine pa_aload_n (pc' := 1) dX12_way_0 rfl rfl ?_
  refine pa_callv (pc' := 4) (vs := []) (rest := []) dX12_way_1 ml_12_167 (by decide) rfl rfl rfl (fun d' _ => (m_good s196)) (fun v h3 hq => ?_)
  obtain ⟨ev, eh⟩ := hq
  subst ev
  show zPn N none d mX12_way (4, _, [], h3) _
  rw [eg] at eh
  subst eh
  refine pa_aload_n (pc' := 5) dX12_way_4 rfl rfl ?_
  refine pa_iload_n (pc' := 6) dX12_way_5 rfl rfl ?_
  refine pa_callv (pc' := 9) (vs := [.inl x]) (rest := []) dX12_way_6 ml_12_277 (by decide) rfl rfl rfl (fun d' _ => (N_isI12 hA q15 h1)) (fun v g9 hq => ?_)
  obtain ⟨ev, eh⟩ := hq
  subst ev
  rw [eh]
  show zPn N none d mX12_way (9, _, [.inl (if 0 ≤ (x).toInt ∧ (x).toInt < (cI A:Int) then 1 else 0)], h3) _
  by_cases hx : 0 ≤ x.toInt ∧ x.toInt < (cI A : Int)
  case neg =>
    rw [if_neg hx]
    refine pa_if_t (pc' := 25) dX12_way_9 (by decide) (by decide) ?_
    refine pa_aload_n (pc' := 26) dX12_way_25 rfl rfl ?_
    refine pa_iconst (v := nI 1) (pc' := 27) dX12_way_26 (by decide) rfl ?_
    refine pa_callv (pc' := 30) (vs := [.inl (nI 1)]) (rest := []) dX12_way_27 ml_12_170 (by decide) rfl rfl rfl (fun d' _ => (m_no z196)) (fun v g hq => ?_)
    obtain ⟨ev, eh⟩ := hq
    subst ev
    show zPn N none d mX12_way (30, _, [.inl ((-1))], g) _
    refine pa_iret dX12_way_30 rfl rfl ?_
    unfold wyV
    rw [if_neg (fun q => hx (twB_iff.mp q).1.1)]
  rw [if_pos hx]
  refine pa_if_f (pc' := 12) dX12_way_9 (by decide) (by decide) rfl ?_
  refine pa_aload_n (pc' := 13) dX12_way_12 rfl rfl ?_
  refine pa_iload_n (pc' := 14) dX12_way_13 rfl rfl ?_
  refine pa_callv (pc' := 17) (vs := [.inl y]) (rest := []) dX12_way_14 ml_12_277 (by decide) rfl rfl rfl (fun d' _ => (N_isI12 hA q15 h1)) (fun v g9 hq => ?_)
  obtain ⟨ev, eh⟩ := hq
  subst ev
  rw [eh]
  show zPn N none d mX12_way (17, _, [.inl (if 0 ≤ (y).toInt ∧ (y).toInt < (cI A:Int) then 1 else 0)], h3) _
  by_cases hy : 0 ≤ y.toInt ∧ y.toInt < (cI A : Int)
  case neg =>
    rw [if_neg hy]
    refine pa_if_t (pc' := 25) dX12_way_17 (by decide) (by decide) ?_
    refine pa_aload_n (pc' := 26) dX12_way_25 rfl rfl ?_
    refine pa_iconst (v := nI 1) (pc' := 27) dX12_way_26 (by decide) rfl ?_
    refine pa_callv (pc' := 30) (vs := [.inl (nI 1)]) (rest := []) dX12_way_27 ml_12_170 (by decide) rfl rfl rfl (fun d' _ => (m_no z196)) (fun v g hq => ?_)
    obtain ⟨ev, eh⟩ := hq
    subst ev
    show zPn N none d mX12_way (30, _, [.inl ((-1))], g) _
    refine pa_iret dX12_way_30 rfl rfl ?_
    unfold wyV
    rw [if_neg (fun q => hy (twB_iff.mp q).1.2)]
  rw [if_pos hy]
  refine pa_if_f (pc' := 20) dX12_way_17 (by decide) (by decide) rfl ?_
  refine pa_iload_n (pc' := 21) dX12_way_20 rfl rfl ?_
  refine pa_iload_n (pc' := 22) dX12_way_21 rfl rfl ?_
  by_cases e : x = y
  · refine pa_icmp_f (pc' := 25) dX12_way_22 (decide_eq_false (not_not_intro e)) (by decide) rfl ?_
    refine pa_aload_n (pc' := 26) dX12_way_25 rfl rfl ?_
    refine pa_iconst (v := nI 1) (pc' := 27) dX12_way_26 (by decide) rfl ?_
    refine pa_callv (pc' := 30) (vs := [.inl (nI 1)]) (rest := []) dX12_way_27 ml_12_170 (by decide) rfl rfl rfl (fun d' _ => (m_no z196)) (fun v g hq => ?_)
    obtain ⟨ev, eh⟩ := hq
    subst ev
    show zPn N none d mX12_way (30, _, [.inl ((-1))], g) _
    refine pa_iret dX12_way_30 rfl rfl ?_
    unfold wyV
    rw [if_neg (fun q => (twB_iff.mp q).2 e)]
  · have V : wyV A s x y = wyR A (fsF (joF A s.2.1 x.toInt.toNat y.toInt.toNat) (cW A)) := if_pos (twB_iff.mpr ⟨⟨hx, hy⟩, e⟩)
    rw [V]
    clear V
    obtain ⟨i, rfl, hi2, ei⟩ := nI_ob hx.1 hx.2
    obtain ⟨j, rfl, hj2, ej⟩ := nI_ob hy.1 hy.2
    have B := B (show cI A ≠ 0 by omega)
    rw [ei, ej]
    refine pa_icmp_t (pc' := 31) dX12_way_22 (decide_eq_true e) (by decide) ?_
    refine pa_aload_n (pc' := 32) dX12_way_31 rfl rfl ?_
    refine pa_iload_n (pc' := 33) dX12_way_32 rfl rfl ?_
    refine pa_iload_n (pc' := 34) dX12_way_33 rfl rfl ?_
    refine pa_callv (pc' := 37) (vs := [.inl (nI i), .inl (nI j)]) (rest := []) dX12_way_34 ml_12_305 (by decide) rfl rfl rfl (fun d' _ => (M_wayOf B (by omega) (by omega))) (fun v g9 hq => ?_)
    obtain ⟨ev, eh⟩ := hq
    subst ev
    rw [eh]
    show zPn N none d mX12_way (37, _, [.inl (wvM (fsF (joF A s.2.1 i j) (cW A)))], h3) _
    refine pa_istore_n (pc' := 38) dX12_way_37 (by decide) rfl rfl ?_
    refine pa_iload_n (pc' := 39) dX12_way_38 rfl rfl ?_
    cases o : fsF (joF A s.2.1 i j) (cW A) with
    | none =>
      refine pa_if_f (pc' := 42) dX12_way_39 (show zcond .ge (wvM none) 0 = false by decide) (by decide) rfl ?_
      refine pa_bipush (v := (-2)) (pc' := 44) dX12_way_42 (by decide) rfl ?_
      refine pa_goto (pc' := 60) dX12_way_44 (by decide) ?_
      refine pa_iret dX12_way_60 rfl rfl ?_
      rfl
    | some k =>
      obtain ⟨hk, -⟩ := fsF_in _ o
      have gk : zcond .ge (nI k) 0 = true := zk_lt_ge (b := false) (zj_nlt (by rw [nI_toInt (by omega), k0]; omega))
      have ed := (B.2.1.2.2.2.2.2 k hk).2.2.1
      rw [show wvM (some k) = nI k from rfl]
      refine pa_if_t (pc' := 47) dX12_way_39 gk (by decide) ?_
      refine pa_aload_n (pc' := 48) dX12_way_47 rfl rfl ?_
      refine pa_getR (pc' := 51) (n := 39) (r := 199) dX12_way_48 fl_12_20 z196 (by decide) q15 rfl ?_
      refine pa_bipush (v := nI 59) (pc' := 53) dX12_way_51 (by decide) rfl ?_
      refine pa_iconst (v := nI 4) (pc' := 54) dX12_way_53 (by decide) rfl ?_
      refine pa_iload_n (pc' := 55) dX12_way_54 rfl rfl ?_
      refine pa_imul (pc' := 56) (v := nI (4 * k)) dX12_way_55 (nI_mul _ _) rfl ?_
      refine pa_iadd (pc' := 57) (v := nI (59 + 4 * k)) dX12_way_56 (nI_add _ _) rfl ?_
      refine pa_iconst (v := nI 2) (pc' := 58) dX12_way_57 (by decide) rfl ?_
      refine pa_iadd (pc' := 59) (v := nI (59 + 4 * k + 2)) dX12_way_58 (nI_add _ _) rfl ?_
      refine pa_iald (pc' := 60) dX12_way_59 z199 rfl (fun _ => ?_)
      rw [nI_clamp (by omega), ed]
      refine pa_iret dX12_way_60 rfl rfl ?_
      rfl
end AN8
