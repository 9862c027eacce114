/-! answers: whale, box, sung -/
theorem nI_ob {x : Int32} {n : Nat} (h0 : 0 ≤ x.toInt) (h1 : x.toInt < (n : Int)) : ∃ w : Nat, x = nI w ∧ w < n ∧ x.toInt.toNat = w := ⟨x.toInt.toNat, x_nI h0, by omega, rfl⟩
def whF (A : pA) (s : nS) (w : Nat) : Nat → Int32
  | 0 => kdA A w
  | 1 => nI (s.2.2.1 w)
  | 2 => nI (s.2.2.2.1 w)
  | 3 => nI (nu A (109 + 4 * w))
  | _ => nI (nu A (110 + 4 * w))
def whV (A : pA) (s : nS) (x y : Int32) : Int32 := if (0 ≤ x.toInt ∧ x.toInt < (cH A : Int)) ∧ 0 ≤ y.toInt ∧ y.toInt < 5 then whF A s x.toInt.toNat y.toInt.toNat else -1
def boF (A : pA) (s : nS) (b : Nat) : Nat → Int32
  | 0 => nI (nu A (127 + 4 * b))
  | 1 => nI (nu A (128 + 4 * b))
  | 2 => nI (nu A (129 + 4 * b))
  | 3 => nI (nu A (130 + 4 * b))
  | 4 => sDy (s.2.2.2.2.1 b)
  | _ => sGo (s.2.2.2.2.1 b)
def boV (A : pA) (s : nS) (x y : Int32) : Int32 := if (0 ≤ x.toInt ∧ x.toInt < (cB A : Int)) ∧ 0 ≤ y.toInt ∧ y.toInt < 6 then boF A s x.toInt.toNat y.toInt.toNat else -1
def suV (A : pA) (s : nS) (x y : Int32) : Int32 := if (0 ≤ x.toInt ∧ x.toInt < (cB A : Int)) ∧ 0 ≤ y.toInt ∧ y.toInt < (lB A x.toInt.toNat : Int) then nI (dg ((s.2.2.2.2.2 x.toInt.toNat).getD y.toInt.toNat 0)) else -1
section AN1
variable {t d N c w b : Nat} {h g : zH} {A : pA} {s : nS} {H J : List nS} {x y : Int32} {kk : Bool} {im : Int32}
theorem lPA.hasH (hA : lPA A c h) (hw : w < cH A) : cI A ≠ 0 := by
  rcases hA.2.2.2.2 with ⟨-, e⟩ | ⟨-, z, -⟩
  · rw [e] at hw
    exact absurd hw (Nat.not_lt_zero w)
  · exact z
theorem in_v {x lo hi : Int32} : zPa d mX12_in [.inl x, .inl lo, .inl hi] h (fun v g => v = some (.inl (if lo.toInt ≤ x.toInt ∧ x.toInt ≤ hi.toInt then 1 else 0)) ∧ g = h) := in_ex2.mono (fun v g hq => by
  obtain ⟨e, hq⟩ := hq
  rcases hq with ⟨ev, a, b⟩ | ⟨ev, a⟩
  · rw [if_pos ⟨Int32.le_iff_toInt_le.mp a, Int32.le_iff_toInt_le.mp b⟩]
    exact ⟨ev, e⟩
  · rw [if_neg (fun q => a ⟨Int32.le_iff_toInt_le.mpr q.1, Int32.le_iff_toInt_le.mpr q.2⟩)]
    exact ⟨ev, e⟩)
theorem N_whale11 (z : lZ A c s H J h) (hi : lInv t h) : zPa d mX11_whale [.inr (.inr (some 0)), .inl x, .inl y] h (fun v _ => v = some (.inl (whV A s x y))) := by
  intro N
  have h1 := hi.2.2.2.2.1
  have hA := z.1.1
  have hT := z.1.2.1
  have hB := z.1.2.2
  have hI := hA.1
  have hN := z.2.1.1
  have K := hA.2.2.2.1
  have hc2 : c = 2 ∨ c = 42 := hA.2.1
  obtain ⟨b1, b2, b3, b4, b5⟩ := hI.2.2.1
  have s0 : zsh h 0 = some (11, 16) := zsh_by h1 (by decide +kernel)
  obtain ⟨sc, sc1, sc2, sc4, sc5, scw, scb⟩ := cSh hA.2.1 h1
  obtain ⟨c9, c12, c13, cw, cb⟩ := cRf_of hi.1 hA.2.1
  have S := hi.nw
  obtain ⟨⟨s86, s87, s88, s89, s90, s91⟩, r87, r88, r89, r90, r91⟩ := S.o86
  have r3 := hA.2.2.1
  have r6 := S.2.1
  obtain ⟨n1, n2, n3, n4⟩ := z.2.2.1.1
  show zPn N none d mX11_whale (0, [(0, .inr (.inr (some 0))), (1, .inl x), (2, .inl y)], [], h) _
  refine pa_aload_n (pc' := 1) dX11_whale_0 rfl rfl ?_
  refine pa_iload_n (pc' := 2) dX11_whale_1 rfl rfl ?_
  refine pa_callv (pc' := 5) (vs := [.inl x]) (rest := []) dX11_whale_2 ml_11_121 (by decide) rfl rfl rfl (fun d' _ => (N_isWhale hA h1)) (fun v g9 hq => ?_)
  obtain ⟨ev, eh⟩ := hq
  subst ev
  rw [eh]
  show zPn N none d mX11_whale (5, _, [.inl (if 0 ≤ x.toInt ∧ x.toInt < (cH A:Int) then 1 else 0)], h) _
  by_cases hx : 0 ≤ x.toInt ∧ x.toInt < (cH A : Int)
  case neg =>
    rw [if_neg hx]
    refine pa_if_f (pc' := 8) dX11_whale_5 (by decide) (by decide) rfl ?_
    refine pa_aload_n (pc' := 9) dX11_whale_8 rfl rfl ?_
    refine pa_iconst (v := nI 1) (pc' := 10) dX11_whale_9 (by decide) rfl ?_
    refine pa_callv (pc' := 13) (vs := [.inl (nI 1)]) (rest := []) dX11_whale_10 ml_11_98 (by decide) rfl rfl rfl (fun d' _ => (c_ref s0)) (fun v g hq => ?_)
    obtain ⟨ev, eh⟩ := hq
    subst ev
    show zPn N none d mX11_whale (13, _, [.inl ((-1))], g) _
    refine pa_iret dX11_whale_13 rfl rfl ?_
    unfold whV
    rw [if_neg (fun q => hx q.1)]
  obtain ⟨w, rfl, hw, ew⟩ := nI_ob hx.1 hx.2
  rw [if_pos hx]
  refine pa_if_t (pc' := 14) dX11_whale_5 (by decide) (by decide) ?_
  refine pa_iload_n (pc' := 15) dX11_whale_14 rfl rfl ?_
  by_cases hy : 0 ≤ y.toInt ∧ y.toInt < 5
  case neg =>
    refine pa_switch (pc' := 127) dX11_whale_15 (fun _ => rfl) (fun q => absurd (show y.toInt < 0 ∨ 4 < y.toInt by omega) q) ?_
    refine pa_aload_n (pc' := 128) dX11_whale_127 rfl rfl ?_
    refine pa_iconst (v := nI 1) (pc' := 129) dX11_whale_128 (by decide) rfl ?_
    refine pa_callv (pc' := 132) (vs := [.inl (nI 1)]) (rest := []) dX11_whale_129 ml_11_98 (by decide) rfl rfl rfl (fun d' _ => (c_ref s0)) (fun v g hq => ?_)
    obtain ⟨ev, eh⟩ := hq
    subst ev
    show zPn N none d mX11_whale (132, _, [.inl ((-1))], g) _
    refine pa_iret dX11_whale_132 rfl rfl ?_
    unfold whV
    rw [if_neg (fun q => hy q.2)]
  obtain ⟨q, rfl, hq, eq⟩ := nI_ob (n := 5) hy.1 hy.2
  have V : whV A s (nI w) (nI q) = whF A s w q := by
    unfold whV
    rw [if_pos ⟨hx, hy⟩, ew, eq]
  rw [V]
  clear V eq
  have hq : q = 0 ∨ q = 1 ∨ q = 2 ∨ q = 3 ∨ q = 4 := by omega
  rcases hq with rfl | rfl | rfl | rfl | rfl
  · refine pa_switch (pc' := 48) dX11_whale_15 (fun e => absurd e (by decide)) (fun _ => ⟨33, by decide, rfl⟩) ?_
    have sw := scw w (by omega)
    have rw_ := cw w (by omega)
    have q : h.2.1 (c + 19 + w) 0 = kdA A w := K.wh (j := 0) hT hI hw (by decide)
    refine pa_aload_n (pc' := 49) dX11_whale_48 rfl rfl ?_
    refine pa_aload_n (pc' := 50) dX11_whale_49 rfl rfl ?_
    refine pa_getR (pc' := 53) (n := 16) (r := c) dX11_whale_50 fl_11_23 s0 (by decide) r3 rfl ?_
    refine pa_getR (pc' := 56) (n := 15) (r := c + 4) dX11_whale_53 fl_11_125 sc (by decide) c12 rfl ?_
    refine pa_iload_n (pc' := 57) dX11_whale_56 rfl rfl ?_
    refine pa_aald (pc' := 58) (r := c + 19 + w) dX11_whale_57 sc4 (by decide) (zn_in (by omega) (by omega)) (by rw [nI_clamp (by omega)]; exact rw_) rfl ?_
    refine pa_getI (pc' := 61) (n := 4) (v := kdA A w) dX11_whale_58 fl_11_129 sw (by decide) q rfl ?_
    refine pa_callv (pc' := 64) (vs := [.inl (kdA A w)]) (rest := []) dX11_whale_61 ml_11_112 (by decide) rfl rfl rfl (fun d' _ => (c_gra s0)) (fun v g hq => ?_)
    obtain ⟨ev, eh⟩ := hq
    subst ev
    show zPn N none d mX11_whale (64, _, [.inl ((kdA A w))], g) _
    refine pa_iret dX11_whale_64 rfl rfl ?_
    rfl
  · refine pa_switch (pc' := 65) dX11_whale_15 (fun e => absurd e (by decide)) (fun _ => ⟨50, by decide, rfl⟩) ?_
    have q : h.2.1 87 w = nI (s.2.2.1 w) := (n3 w hw).1
    refine pa_aload_n (pc' := 66) dX11_whale_65 rfl rfl ?_
    refine pa_aload_n (pc' := 67) dX11_whale_66 rfl rfl ?_
    refine pa_getR (pc' := 70) (n := 16) (r := 86) dX11_whale_67 fl_11_42 s0 (by decide) r6 rfl ?_
    refine pa_getR (pc' := 73) (n := 7) (r := 87) dX11_whale_70 fl_11_134 s86 (by decide) r87 rfl ?_
    refine pa_iload_n (pc' := 74) dX11_whale_73 rfl rfl ?_
    refine pa_iald (pc' := 75) dX11_whale_74 s87 rfl (fun _ => ?_)
    rw [nI_clamp (by omega), q]
    refine pa_callv (pc' := 78) (vs := [.inl (nI (s.2.2.1 w))]) (rest := []) dX11_whale_75 ml_11_112 (by decide) rfl rfl rfl (fun d' _ => (c_gra s0)) (fun v g hq => ?_)
    obtain ⟨ev, eh⟩ := hq
    subst ev
    show zPn N none d mX11_whale (78, _, [.inl (nI ((s.2.2.1 w)))], g) _
    refine pa_iret dX11_whale_78 rfl rfl ?_
    rfl
  · refine pa_switch (pc' := 79) dX11_whale_15 (fun e => absurd e (by decide)) (fun _ => ⟨64, by decide, rfl⟩) ?_
    have q : h.2.1 88 w = nI (s.2.2.2.1 w) := (n3 w hw).2
    refine pa_aload_n (pc' := 80) dX11_whale_79 rfl rfl ?_
    refine pa_aload_n (pc' := 81) dX11_whale_80 rfl rfl ?_
    refine pa_getR (pc' := 84) (n := 16) (r := 86) dX11_whale_81 fl_11_42 s0 (by decide) r6 rfl ?_
    refine pa_getR (pc' := 87) (n := 7) (r := 88) dX11_whale_84 fl_11_138 s86 (by decide) r88 rfl ?_
    refine pa_iload_n (pc' := 88) dX11_whale_87 rfl rfl ?_
    refine pa_iald (pc' := 89) dX11_whale_88 s88 rfl (fun _ => ?_)
    rw [nI_clamp (by omega), q]
    refine pa_callv (pc' := 92) (vs := [.inl (nI (s.2.2.2.1 w))]) (rest := []) dX11_whale_89 ml_11_112 (by decide) rfl rfl rfl (fun d' _ => (c_gra s0)) (fun v g hq => ?_)
    obtain ⟨ev, eh⟩ := hq
    subst ev
    show zPn N none d mX11_whale (92, _, [.inl (nI ((s.2.2.2.1 w)))], g) _
    refine pa_iret dX11_whale_92 rfl rfl ?_
    rfl
  · refine pa_switch (pc' := 93) dX11_whale_15 (fun e => absurd e (by decide)) (fun _ => ⟨78, by decide, rfl⟩) ?_
    have sw := scw w (by omega)
    have rw_ := cw w (by omega)
    have q : h.2.1 (c + 19 + w) 2 = nI (nu A (109 + 4 * w)) := by rw [K.wh hT hI hw (by decide), (num_whale hI hB hT hw).2.2.2.2 2 (by decide), show 107 + 4 * w + 2 = 109 + 4 * w by omega]
    refine pa_aload_n (pc' := 94) dX11_whale_93 rfl rfl ?_
    refine pa_aload_n (pc' := 95) dX11_whale_94 rfl rfl ?_
    refine pa_getR (pc' := 98) (n := 16) (r := c) dX11_whale_95 fl_11_23 s0 (by decide) r3 rfl ?_
    refine pa_getR (pc' := 101) (n := 15) (r := c + 4) dX11_whale_98 fl_11_125 sc (by decide) c12 rfl ?_
    refine pa_iload_n (pc' := 102) dX11_whale_101 rfl rfl ?_
    refine pa_aald (pc' := 103) (r := c + 19 + w) dX11_whale_102 sc4 (by decide) (zn_in (by omega) (by omega)) (by rw [nI_clamp (by omega)]; exact rw_) rfl ?_
    refine pa_getI (pc' := 106) (n := 4) (v := nI (nu A (109 + 4 * w))) dX11_whale_103 fl_11_141 sw (by decide) q rfl ?_
    refine pa_callv (pc' := 109) (vs := [.inl (nI (nu A (109 + 4 * w)))]) (rest := []) dX11_whale_106 ml_11_112 (by decide) rfl rfl rfl (fun d' _ => (c_gra s0)) (fun v g hq => ?_)
    obtain ⟨ev, eh⟩ := hq
    subst ev
    show zPn N none d mX11_whale (109, _, [.inl (nI ((nu A (109 + 4 * w))))], g) _
    refine pa_iret dX11_whale_109 rfl rfl ?_
    rfl
  · refine pa_switch (pc' := 110) dX11_whale_15 (fun e => absurd e (by decide)) (fun _ => ⟨95, by decide, rfl⟩) ?_
    have sw := scw w (by omega)
    have rw_ := cw w (by omega)
    have q : h.2.1 (c + 19 + w) 3 = nI (nu A (110 + 4 * w)) := by rw [K.wh hT hI hw (by decide), (num_whale hI hB hT hw).2.2.2.2 3 (by decide), show 107 + 4 * w + 3 = 110 + 4 * w by omega]
    refine pa_aload_n (pc' := 111) dX11_whale_110 rfl rfl ?_
    refine pa_aload_n (pc' := 112) dX11_whale_111 rfl rfl ?_
    refine pa_getR (pc' := 115) (n := 16) (r := c) dX11_whale_112 fl_11_23 s0 (by decide) r3 rfl ?_
    refine pa_getR (pc' := 118) (n := 15) (r := c + 4) dX11_whale_115 fl_11_125 sc (by decide) c12 rfl ?_
    refine pa_iload_n (pc' := 119) dX11_whale_118 rfl rfl ?_
    refine pa_aald (pc' := 120) (r := c + 19 + w) dX11_whale_119 sc4 (by decide) (zn_in (by omega) (by omega)) (by rw [nI_clamp (by omega)]; exact rw_) rfl ?_
    refine pa_getI (pc' := 123) (n := 4) (v := nI (nu A (110 + 4 * w))) dX11_whale_120 fl_11_144 sw (by decide) q rfl ?_
    refine pa_callv (pc' := 126) (vs := [.inl (nI (nu A (110 + 4 * w)))]) (rest := []) dX11_whale_123 ml_11_112 (by decide) rfl rfl rfl (fun d' _ => (c_gra s0)) (fun v g hq => ?_)
    obtain ⟨ev, eh⟩ := hq
    subst ev
    show zPn N none d mX11_whale (126, _, [.inl (nI ((nu A (110 + 4 * w))))], g) _
    refine pa_iret dX11_whale_126 rfl rfl ?_
    rfl
theorem N_box11 (z : lZ A c s H J h) (hi : lInv t h) : zPa d mX11_box [.inr (.inr (some 0)), .inl x, .inl y] h (fun v _ => v = some (.inl (boV A s x y))) := by
  intro N
  have h1 := hi.2.2.2.2.1
  have hA := z.1.1
  have hT := z.1.2.1
  have hB := z.1.2.2
  have hI := hA.1
  have hN := z.2.1.1
  have K := hA.2.2.2.1
  have hc2 : c = 2 ∨ c = 42 := hA.2.1
  obtain ⟨b1, b2, b3, b4, b5⟩ := hI.2.2.1
  have s0 : zsh h 0 = some (11, 16) := zsh_by h1 (by decide +kernel)
  obtain ⟨sc, sc1, sc2, sc4, sc5, scw, scb⟩ := cSh hA.2.1 h1
  obtain ⟨c9, c12, c13, cw, cb⟩ := cRf_of hi.1 hA.2.1
  have S := hi.nw
  obtain ⟨⟨s86, s87, s88, s89, s90, s91⟩, r87, r88, r89, r90, r91⟩ := S.o86
  have r3 := hA.2.2.1
  have r6 := S.2.1
  obtain ⟨n1, n2, n3, n4⟩ := z.2.2.1.1
  show zPn N none d mX11_box (0, [(0, .inr (.inr (some 0))), (1, .inl x), (2, .inl y)], [], h) _
  refine pa_aload_n (pc' := 1) dX11_box_0 rfl rfl ?_
  refine pa_iload_n (pc' := 2) dX11_box_1 rfl rfl ?_
  refine pa_callv (pc' := 5) (vs := [.inl x]) (rest := []) dX11_box_2 ml_11_147 (by decide) rfl rfl rfl (fun d' _ => (N_isBox hA h1)) (fun v g9 hq => ?_)
  obtain ⟨ev, eh⟩ := hq
  subst ev
  rw [eh]
  show zPn N none d mX11_box (5, _, [.inl (if 0 ≤ x.toInt ∧ x.toInt < (cB A:Int) then 1 else 0)], h) _
  by_cases hx : 0 ≤ x.toInt ∧ x.toInt < (cB A : Int)
  case neg =>
    rw [if_neg hx]
    refine pa_if_f (pc' := 8) dX11_box_5 (by decide) (by decide) rfl ?_
    refine pa_aload_n (pc' := 9) dX11_box_8 rfl rfl ?_
    refine pa_iconst (v := nI 1) (pc' := 10) dX11_box_9 (by decide) rfl ?_
    refine pa_callv (pc' := 13) (vs := [.inl (nI 1)]) (rest := []) dX11_box_10 ml_11_98 (by decide) rfl rfl rfl (fun d' _ => (c_ref s0)) (fun v g hq => ?_)
    obtain ⟨ev, eh⟩ := hq
    subst ev
    show zPn N none d mX11_box (13, _, [.inl ((-1))], g) _
    refine pa_iret dX11_box_13 rfl rfl ?_
    unfold boV
    rw [if_neg (fun q => hx q.1)]
  obtain ⟨w, rfl, hw, ew⟩ := nI_ob hx.1 hx.2
  rw [if_pos hx]
  refine pa_if_t (pc' := 14) dX11_box_5 (by decide) (by decide) ?_
  refine pa_iload_n (pc' := 15) dX11_box_14 rfl rfl ?_
  by_cases hy : 0 ≤ y.toInt ∧ y.toInt < 6
  case neg =>
    refine pa_switch (pc' := 148) dX11_box_15 (fun _ => rfl) (fun q => absurd (show y.toInt < 0 ∨ 5 < y.toInt by omega) q) ?_
    refine pa_aload_n (pc' := 149) dX11_box_148 rfl rfl ?_
    refine pa_iconst (v := nI 1) (pc' := 150) dX11_box_149 (by decide) rfl ?_
    refine pa_callv (pc' := 153) (vs := [.inl (nI 1)]) (rest := []) dX11_box_150 ml_11_98 (by decide) rfl rfl rfl (fun d' _ => (c_ref s0)) (fun v g hq => ?_)
    obtain ⟨ev, eh⟩ := hq
    subst ev
    show zPn N none d mX11_box (153, _, [.inl ((-1))], g) _
    refine pa_iret dX11_box_153 rfl rfl ?_
    unfold boV
    rw [if_neg (fun q => hy q.2)]
  obtain ⟨q, rfl, hq, eq⟩ := nI_ob (n := 6) hy.1 hy.2
  have V : boV A s (nI w) (nI q) = boF A s w q := by
    unfold boV
    rw [if_pos ⟨hx, hy⟩, ew, eq]
  rw [V]
  clear V eq
  have hq : q = 0 ∨ q = 1 ∨ q = 2 ∨ q = 3 ∨ q = 4 ∨ q = 5 := by omega
  rcases hq with rfl | rfl | rfl | rfl | rfl | rfl
  · refine pa_switch (pc' := 52) dX11_box_15 (fun e => absurd e (by decide)) (fun _ => ⟨37, by decide, rfl⟩) ?_
    have sb := scb w (by omega)
    have rb := cb w (by omega)
    have q : h.2.1 (c + 24 + w) 0 = nI (nu A (127 + 4 * w)) := by
      rw [K.bo hT hI hw (by decide), (num_box hI hB hT hw).2.2.2.2 0 (by decide)]
      exact congrArg (fun v => nI (nu A v)) (by omega)
    refine pa_aload_n (pc' := 53) dX11_box_52 rfl rfl ?_
    refine pa_aload_n (pc' := 54) dX11_box_53 rfl rfl ?_
    refine pa_getR (pc' := 57) (n := 16) (r := c) dX11_box_54 fl_11_23 s0 (by decide) r3 rfl ?_
    refine pa_getR (pc' := 60) (n := 15) (r := c + 5) dX11_box_57 fl_11_150 sc (by decide) c13 rfl ?_
    refine pa_iload_n (pc' := 61) dX11_box_60 rfl rfl ?_
    refine pa_aald (pc' := 62) (r := c + 24 + w) dX11_box_61 sc5 (by decide) (zn_in (by omega) (by omega)) (by rw [nI_clamp (by omega)]; exact rb) rfl ?_
    refine pa_getI (pc' := 65) (n := 4) (v := nI (nu A (127 + 4 * w))) dX11_box_62 fl_11_154 sb (by decide) q rfl ?_
    refine pa_callv (pc' := 68) (vs := [.inl (nI (nu A (127 + 4 * w)))]) (rest := []) dX11_box_65 ml_11_112 (by decide) rfl rfl rfl (fun d' _ => (c_gra s0)) (fun v g hq => ?_)
    obtain ⟨ev, eh⟩ := hq
    subst ev
    show zPn N none d mX11_box (68, _, [.inl (nI ((nu A (127 + 4 * w))))], g) _
    refine pa_iret dX11_box_68 rfl rfl ?_
    rfl
  · refine pa_switch (pc' := 69) dX11_box_15 (fun e => absurd e (by decide)) (fun _ => ⟨54, by decide, rfl⟩) ?_
    have sb := scb w (by omega)
    have rb := cb w (by omega)
    have q : h.2.1 (c + 24 + w) 1 = nI (nu A (128 + 4 * w)) := by
      rw [K.bo hT hI hw (by decide), (num_box hI hB hT hw).2.2.2.2 1 (by decide)]
      exact congrArg (fun v => nI (nu A v)) (by omega)
    refine pa_aload_n (pc' := 70) dX11_box_69 rfl rfl ?_
    refine pa_aload_n (pc' := 71) dX11_box_70 rfl rfl ?_
    refine pa_getR (pc' := 74) (n := 16) (r := c) dX11_box_71 fl_11_23 s0 (by decide) r3 rfl ?_
    refine pa_getR (pc' := 77) (n := 15) (r := c + 5) dX11_box_74 fl_11_150 sc (by decide) c13 rfl ?_
    refine pa_iload_n (pc' := 78) dX11_box_77 rfl rfl ?_
    refine pa_aald (pc' := 79) (r := c + 24 + w) dX11_box_78 sc5 (by decide) (zn_in (by omega) (by omega)) (by rw [nI_clamp (by omega)]; exact rb) rfl ?_
    refine pa_getI (pc' := 82) (n := 4) (v := nI (nu A (128 + 4 * w))) dX11_box_79 fl_11_159 sb (by decide) q rfl ?_
    refine pa_callv (pc' := 85) (vs := [.inl (nI (nu A (128 + 4 * w)))]) (rest := []) dX11_box_82 ml_11_112 (by decide) rfl rfl rfl (fun d' _ => (c_gra s0)) (fun v g hq => ?_)
    obtain ⟨ev, eh⟩ := hq
    subst ev
    show zPn N none d mX11_box (85, _, [.inl (nI ((nu A (128 + 4 * w))))], g) _
    refine pa_iret dX11_box_85 rfl rfl ?_
    rfl
  · refine pa_switch (pc' := 86) dX11_box_15 (fun e => absurd e (by decide)) (fun _ => ⟨71, by decide, rfl⟩) ?_
    have sb := scb w (by omega)
    have rb := cb w (by omega)
    have q : h.2.1 (c + 24 + w) 2 = nI (nu A (129 + 4 * w)) := by
      rw [K.bo hT hI hw (by decide), (num_box hI hB hT hw).2.2.2.2 2 (by decide)]
      exact congrArg (fun v => nI (nu A v)) (by omega)
    refine pa_aload_n (pc' := 87) dX11_box_86 rfl rfl ?_
    refine pa_aload_n (pc' := 88) dX11_box_87 rfl rfl ?_
    refine pa_getR (pc' := 91) (n := 16) (r := c) dX11_box_88 fl_11_23 s0 (by decide) r3 rfl ?_
    refine pa_getR (pc' := 94) (n := 15) (r := c + 5) dX11_box_91 fl_11_150 sc (by decide) c13 rfl ?_
    refine pa_iload_n (pc' := 95) dX11_box_94 rfl rfl ?_
    refine pa_aald (pc' := 96) (r := c + 24 + w) dX11_box_95 sc5 (by decide) (zn_in (by omega) (by omega)) (by rw [nI_clamp (by omega)]; exact rb) rfl ?_
    refine pa_getI (pc' := 99) (n := 4) (v := nI (nu A (129 + 4 * w))) dX11_box_96 fl_11_162 sb (by decide) q rfl ?_
    refine pa_callv (pc' := 102) (vs := [.inl (nI (nu A (129 + 4 * w)))]) (rest := []) dX11_box_99 ml_11_112 (by decide) rfl rfl rfl (fun d' _ => (c_gra s0)) (fun v g hq => ?_)
    obtain ⟨ev, eh⟩ := hq
    subst ev
    show zPn N none d mX11_box (102, _, [.inl (nI ((nu A (129 + 4 * w))))], g) _
    refine pa_iret dX11_box_102 rfl rfl ?_
    rfl
  · refine pa_switch (pc' := 103) dX11_box_15 (fun e => absurd e (by decide)) (fun _ => ⟨88, by decide, rfl⟩) ?_
    have sb := scb w (by omega)
    have rb := cb w (by omega)
    have q : h.2.1 (c + 24 + w) 3 = nI (nu A (130 + 4 * w)) := by
      rw [K.bo hT hI hw (by decide), (num_box hI hB hT hw).2.2.2.2 3 (by decide)]
      exact congrArg (fun v => nI (nu A v)) (by omega)
    refine pa_aload_n (pc' := 104) dX11_box_103 rfl rfl ?_
    refine pa_aload_n (pc' := 105) dX11_box_104 rfl rfl ?_
    refine pa_getR (pc' := 108) (n := 16) (r := c) dX11_box_105 fl_11_23 s0 (by decide) r3 rfl ?_
    refine pa_getR (pc' := 111) (n := 15) (r := c + 5) dX11_box_108 fl_11_150 sc (by decide) c13 rfl ?_
    refine pa_iload_n (pc' := 112) dX11_box_111 rfl rfl ?_
    refine pa_aald (pc' := 113) (r := c + 24 + w) dX11_box_112 sc5 (by decide) (zn_in (by omega) (by omega)) (by rw [nI_clamp (by omega)]; exact rb) rfl ?_
    refine pa_getI (pc' := 116) (n := 4) (v := nI (nu A (130 + 4 * w))) dX11_box_113 fl_11_165 sb (by decide) q rfl ?_
    refine pa_callv (pc' := 119) (vs := [.inl (nI (nu A (130 + 4 * w)))]) (rest := []) dX11_box_116 ml_11_112 (by decide) rfl rfl rfl (fun d' _ => (c_gra s0)) (fun v g hq => ?_)
    obtain ⟨ev, eh⟩ := hq
    subst ev
    show zPn N none d mX11_box (119, _, [.inl (nI ((nu A (130 + 4 * w))))], g) _
    refine pa_iret dX11_box_119 rfl rfl ?_
    rfl
  · refine pa_switch (pc' := 120) dX11_box_15 (fun e => absurd e (by decide)) (fun _ => ⟨105, by decide, rfl⟩) ?_
    have q : h.2.1 89 w = sDy (s.2.2.2.2.1 w) := (n4 w hw).1
    refine pa_aload_n (pc' := 121) dX11_box_120 rfl rfl ?_
    refine pa_aload_n (pc' := 122) dX11_box_121 rfl rfl ?_
    refine pa_getR (pc' := 125) (n := 16) (r := 86) dX11_box_122 fl_11_42 s0 (by decide) r6 rfl ?_
    refine pa_getR (pc' := 128) (n := 7) (r := 89) dX11_box_125 fl_11_168 s86 (by decide) r89 rfl ?_
    refine pa_iload_n (pc' := 129) dX11_box_128 rfl rfl ?_
    refine pa_iald (pc' := 130) dX11_box_129 s89 rfl (fun _ => ?_)
    rw [nI_clamp (by omega), q]
    refine pa_callv (pc' := 133) (vs := [.inl (sDy (s.2.2.2.2.1 w))]) (rest := []) dX11_box_130 ml_11_112 (by decide) rfl rfl rfl (fun d' _ => (c_gra s0)) (fun v g hq => ?_)
    obtain ⟨ev, eh⟩ := hq
    subst ev
    show zPn N none d mX11_box (133, _, [.inl ((sDy (s.2.2.2.2.1 w)))], g) _
    refine pa_iret dX11_box_133 rfl rfl ?_
    rfl
  · refine pa_switch (pc' := 134) dX11_box_15 (fun e => absurd e (by decide)) (fun _ => ⟨119, by decide, rfl⟩) ?_
    have q : h.2.1 90 w = sGo (s.2.2.2.2.1 w) := (n4 w hw).2.1
    refine pa_aload_n (pc' := 135) dX11_box_134 rfl rfl ?_
    refine pa_aload_n (pc' := 136) dX11_box_135 rfl rfl ?_
    refine pa_getR (pc' := 139) (n := 16) (r := 86) dX11_box_136 fl_11_42 s0 (by decide) r6 rfl ?_
    refine pa_getR (pc' := 142) (n := 7) (r := 90) dX11_box_139 fl_11_171 s86 (by decide) r90 rfl ?_
    refine pa_iload_n (pc' := 143) dX11_box_142 rfl rfl ?_
    refine pa_iald (pc' := 144) dX11_box_143 s90 rfl (fun _ => ?_)
    rw [nI_clamp (by omega), q]
    refine pa_callv (pc' := 147) (vs := [.inl (sGo (s.2.2.2.2.1 w))]) (rest := []) dX11_box_144 ml_11_112 (by decide) rfl rfl rfl (fun d' _ => (c_gra s0)) (fun v g hq => ?_)
    obtain ⟨ev, eh⟩ := hq
    subst ev
    show zPn N none d mX11_box (147, _, [.inl ((sGo (s.2.2.2.2.1 w)))], g) _
    refine pa_iret dX11_box_147 rfl rfl ?_
    rfl
theorem N_whale12 (z : lZ A c s H J g) (m : lMid kk im t g h) : zPa d mX12_whale [.inr (.inr (some 196)), .inl x, .inl y] h (fun v _ => v = some (.inl (whV A s x y))) := by
  intro N
  have s196 : zsh h 196 = some (12, 39) := zsh_by m.2.1.2.2.2 (by decide +kernel)
  generalize eg : zsI (zsI h 196 0 0) 196 11 0 = h2
  have e2 : ∀ a k, a ≠ 196 → h2.2.1 a k = h.2.1 a k := fun a k ha => by rw [← eg, zsI_no (by omega), zsI_no (by omega)]
  have e3 : ∀ k, k ≠ 0 → k ≠ 11 → h2.2.1 196 k = h.2.1 196 k := fun k w1 w2 => by rw [← eg, zsI_no (by omega), zsI_no (by omega)]
  have h1 : h2.1 = hh_487.1 := by rw [← eg]; exact m.2.1.2.2.2
  have hA : lPA A c h2 := by rw [← eg]; exact (m.pa z.1.1).gd
  have B : cI A ≠ 0 → bgM A s h2 := fun ne => by rw [← eg]; exact (z.bm m ne).gd
  have er : h2.2.2.2.1 = h.2.2.2.1 := by rw [← eg]; rfl
  have q15 : h2.2.2.2.1 196 15 = some 199 := by rw [er]; exact m.r15
  have q17 : h2.2.2.2.1 196 17 = some 201 := by rw [er]; exact m.mw.2.1
  have z196 : zsh h2 196 = some (12, 39) := zsh_by h1 (by decide +kernel)
  have z199 : zsh h2 199 = some (14, 363) := zsh_by h1 (by decide +kernel)
  have z201 : zsh h2 201 = some (14, 76) := zsh_by h1 (by decide +kernel)
  have M : nMo A s 201 0 h2 := (z.lm m).1.1.fr (fun k => e2 _ _ (by decide))
  have hT := z.1.2.1
  have hB := z.1.2.2
  have hI := z.1.1.1
  have hN := z.2.1.1
  have k0 : (0 : Int32).toInt = 0 := by decide
  obtain ⟨b1, b2, b3, b4, b5⟩ := hI.2.2.1
  show zPn N none d mX12_whale (0, [(0, .inr (.inr (some 196))), (1, .inl x), (2, .inl y)], [], h) _
  refine pa_aload_n (pc' := 1) dX12_whale_0 rfl rfl ?_
  refine pa_callv (pc' := 4) (vs := []) (rest := []) dX12_whale_1 ml_12_167 (by decide) rfl rfl rfl (fun d' _ => (m_good s196)) (fun v h3 hq => ?_)
  obtain ⟨ev, eh⟩ := hq
  subst ev
  show zPn N none d mX12_whale (4, _, [], h3) _
  rw [eg] at eh
  subst eh
  refine pa_aload_n (pc' := 5) dX12_whale_4 rfl rfl ?_
  refine pa_iload_n (pc' := 6) dX12_whale_5 rfl rfl ?_
  refine pa_callv (pc' := 9) (vs := [.inl x]) (rest := []) dX12_whale_6 ml_12_268 (by decide) rfl rfl rfl (fun d' _ => (M_isWhale hA q15 h1)) (fun v g9 hq => ?_)
  obtain ⟨ev, eh⟩ := hq
  subst ev
  rw [eh]
  show zPn N none d mX12_whale (9, _, [.inl (if 0 ≤ x.toInt ∧ x.toInt < (cH A:Int) then 1 else 0)], h3) _
  by_cases hx : 0 ≤ x.toInt ∧ x.toInt < (cH A : Int)
  case neg =>
    rw [if_neg hx]
    refine pa_if_t (pc' := 21) dX12_whale_9 (by decide) (by decide) ?_
    refine pa_aload_n (pc' := 22) dX12_whale_21 rfl rfl ?_
    refine pa_iconst (v := nI 1) (pc' := 23) dX12_whale_22 (by decide) rfl ?_
    refine pa_callv (pc' := 26) (vs := [.inl (nI 1)]) (rest := []) dX12_whale_23 ml_12_170 (by decide) rfl rfl rfl (fun d' _ => (m_no z196)) (fun v g hq => ?_)
    obtain ⟨ev, eh⟩ := hq
    subst ev
    show zPn N none d mX12_whale (26, _, [.inl ((-1))], g) _
    refine pa_iret dX12_whale_26 rfl rfl ?_
    unfold whV
    rw [if_neg (fun q => hx q.1)]
  obtain ⟨w, rfl, hw, ew⟩ := nI_ob hx.1 hx.2
  rw [if_pos hx]
  refine pa_if_f (pc' := 12) dX12_whale_9 (by decide) (by decide) rfl ?_
  refine pa_iload_n (pc' := 13) dX12_whale_12 rfl rfl ?_
  refine pa_iconst (v := 0) (pc' := 14) dX12_whale_13 (by decide) rfl ?_
  refine pa_iconst (v := 4) (pc' := 15) dX12_whale_14 (by decide) rfl ?_
  refine pa_calls (pc' := 18) (kd := 1) (vs := [.inl y, .inl 0, .inl 4]) (rest := []) dX12_whale_15 ml_12_149 (.inl rfl) rfl rfl rfl (fun d' _ => in_v) (fun v g9 hq => ?_)
  obtain ⟨ev, eh⟩ := hq
  subst ev
  rw [eh]
  show zPn N none d mX12_whale (18, _, [.inl (if ((0 : Int32)).toInt ≤ (y).toInt ∧ (y).toInt ≤ ((4 : Int32)).toInt then 1 else 0)], h3) _
  rw [k0, show (4 : Int32).toInt = 4 by decide]
  by_cases hy : 0 ≤ y.toInt ∧ y.toInt ≤ 4
  case neg =>
    rw [if_neg hy]
    refine pa_if_f (pc' := 21) dX12_whale_18 (by decide) (by decide) rfl ?_
    refine pa_aload_n (pc' := 22) dX12_whale_21 rfl rfl ?_
    refine pa_iconst (v := nI 1) (pc' := 23) dX12_whale_22 (by decide) rfl ?_
    refine pa_callv (pc' := 26) (vs := [.inl (nI 1)]) (rest := []) dX12_whale_23 ml_12_170 (by decide) rfl rfl rfl (fun d' _ => (m_no z196)) (fun v g hq => ?_)
    obtain ⟨ev, eh⟩ := hq
    subst ev
    show zPn N none d mX12_whale (26, _, [.inl ((-1))], g) _
    refine pa_iret dX12_whale_26 rfl rfl ?_
    unfold whV
    rw [if_neg (fun q => hy (by omega))]
  rw [if_pos hy]
  have hy : 0 ≤ y.toInt ∧ y.toInt < 5 := by omega
  refine pa_if_t (pc' := 27) dX12_whale_18 (by decide) (by decide) ?_
  obtain ⟨q, rfl, hq, eq⟩ := nI_ob (n := 5) hy.1 hy.2
  have V : whV A s (nI w) (nI q) = whF A s w q := by
    unfold whV
    rw [if_pos ⟨hx, hy⟩, ew, eq]
  rw [V]
  clear V eq
  have B := B (hA.hasH hw)
  refine pa_iload_n (pc' := 28) dX12_whale_27 rfl rfl ?_
  have hq : q = 0 ∨ q = 1 ∨ q = 2 ∨ q = 3 ∨ q = 4 := by omega
  rcases hq with rfl | rfl | rfl | rfl | rfl
  · refine pa_switch (pc' := 56) dX12_whale_28 (fun e => absurd e (by decide)) (fun _ => ⟨28, by decide, rfl⟩) ?_
    refine pa_aload_n (pc' := 57) dX12_whale_56 rfl rfl ?_
    refine pa_iload_n (pc' := 58) dX12_whale_57 rfl rfl ?_
    refine pa_iconst (v := nI 0) (pc' := 59) dX12_whale_58 (by decide) rfl ?_
    refine pa_callv (pc' := 62) (vs := [.inl (nI w), .inl (nI 0)]) (rest := []) dX12_whale_59 ml_12_271 (by decide) rfl rfl rfl (fun d' _ => (M_ofWhale B hw (by decide))) (fun v g9 hq => ?_)
    obtain ⟨ev, eh⟩ := hq
    subst ev
    rw [eh]
    show zPn N none d mX12_whale (62, _, [.inl (vA A (107 + 4 * w + 0))], h3) _
    refine pa_iret dX12_whale_62 rfl rfl ?_
    rfl
  · refine pa_switch (pc' := 63) dX12_whale_28 (fun e => absurd e (by decide)) (fun _ => ⟨35, by decide, rfl⟩) ?_
    have q : h3.2.1 201 (2 + w) = nI (s.2.2.1 w) := by rw [← (M.2.2.1 w hw).1, Nat.zero_add]
    refine pa_aload_n (pc' := 64) dX12_whale_63 rfl rfl ?_
    refine pa_getR (pc' := 67) (n := 39) (r := 201) dX12_whale_64 fl_12_26 z196 (by decide) q17 rfl ?_
    refine pa_iconst (v := nI 2) (pc' := 68) dX12_whale_67 (by decide) rfl ?_
    refine pa_iload_n (pc' := 69) dX12_whale_68 rfl rfl ?_
    refine pa_iadd (pc' := 70) (v := nI (2 + w)) dX12_whale_69 (nI_add _ _) rfl ?_
    refine pa_iald (pc' := 71) dX12_whale_70 z201 rfl (fun _ => ?_)
    rw [nI_clamp (by omega), q]
    refine pa_iret dX12_whale_71 rfl rfl ?_
    rfl
  · refine pa_switch (pc' := 72) dX12_whale_28 (fun e => absurd e (by decide)) (fun _ => ⟨44, by decide, rfl⟩) ?_
    have q : h3.2.1 201 (7 + w) = nI (s.2.2.2.1 w) := by rw [← (M.2.2.1 w hw).2, Nat.zero_add]
    refine pa_aload_n (pc' := 73) dX12_whale_72 rfl rfl ?_
    refine pa_getR (pc' := 76) (n := 39) (r := 201) dX12_whale_73 fl_12_26 z196 (by decide) q17 rfl ?_
    refine pa_bipush (v := nI 7) (pc' := 78) dX12_whale_76 (by decide) rfl ?_
    refine pa_iload_n (pc' := 79) dX12_whale_78 rfl rfl ?_
    refine pa_iadd (pc' := 80) (v := nI (7 + w)) dX12_whale_79 (nI_add _ _) rfl ?_
    refine pa_iald (pc' := 81) dX12_whale_80 z201 rfl (fun _ => ?_)
    rw [nI_clamp (by omega), q]
    refine pa_iret dX12_whale_81 rfl rfl ?_
    rfl
  · refine pa_switch (pc' := 82) dX12_whale_28 (fun _ => rfl) (fun e => absurd (by decide) e) ?_
    refine pa_aload_n (pc' := 83) dX12_whale_82 rfl rfl ?_
    refine pa_iload_n (pc' := 84) dX12_whale_83 rfl rfl ?_
    refine pa_iload_n (pc' := 85) dX12_whale_84 rfl rfl ?_
    refine pa_iconst (v := nI 1) (pc' := 86) dX12_whale_85 (by decide) rfl ?_
    refine pa_isub (pc' := 87) (v := nI (3 - 1)) dX12_whale_86 (nI_sub (by omega)) rfl ?_
    refine pa_callv (pc' := 90) (vs := [.inl (nI w), .inl (nI (3 - 1))]) (rest := []) dX12_whale_87 ml_12_271 (by decide) rfl rfl rfl (fun d' _ => (M_ofWhale (j := 2) B hw (by decide))) (fun v g9 hq => ?_)
    obtain ⟨ev, eh⟩ := hq
    subst ev
    rw [eh]
    show zPn N none d mX12_whale (90, _, [.inl (vA A (107 + 4 * w + 2))], h3) _
    refine pa_iret dX12_whale_90 rfl rfl ?_
    rw [(num_whale hI hB hT hw).2.2.2.2 2 (by decide), show 107 + 4 * w + 2 = 109 + 4 * w by omega]
    rfl
  · refine pa_switch (pc' := 82) dX12_whale_28 (fun _ => rfl) (fun e => absurd (by decide) e) ?_
    refine pa_aload_n (pc' := 83) dX12_whale_82 rfl rfl ?_
    refine pa_iload_n (pc' := 84) dX12_whale_83 rfl rfl ?_
    refine pa_iload_n (pc' := 85) dX12_whale_84 rfl rfl ?_
    refine pa_iconst (v := nI 1) (pc' := 86) dX12_whale_85 (by decide) rfl ?_
    refine pa_isub (pc' := 87) (v := nI (4 - 1)) dX12_whale_86 (nI_sub (by omega)) rfl ?_
    refine pa_callv (pc' := 90) (vs := [.inl (nI w), .inl (nI (4 - 1))]) (rest := []) dX12_whale_87 ml_12_271 (by decide) rfl rfl rfl (fun d' _ => (M_ofWhale (j := 3) B hw (by decide))) (fun v g9 hq => ?_)
    obtain ⟨ev, eh⟩ := hq
    subst ev
    rw [eh]
    show zPn N none d mX12_whale (90, _, [.inl (vA A (107 + 4 * w + 3))], h3) _
    refine pa_iret dX12_whale_90 rfl rfl ?_
    rw [(num_whale hI hB hT hw).2.2.2.2 3 (by decide), show 107 + 4 * w + 3 = 110 + 4 * w by omega]
    rfl
theorem N_box12 (z : lZ A c s H J g) (m : lMid kk im t g h) : zPa d mX12_box [.inr (.inr (some 196)), .inl x, .inl y] h (fun v _ => v = some (.inl (boV A s x y))) := by
  intro N
  have s196 : zsh h 196 = some (12, 39) := zsh_by m.2.1.2.2.2 (by decide +kernel)
  generalize eg : zsI (zsI h 196 0 0) 196 11 0 = h2
  have e2 : ∀ a k, a ≠ 196 → h2.2.1 a k = h.2.1 a k := fun a k ha => by rw [← eg, zsI_no (by omega), zsI_no (by omega)]
  have e3 : ∀ k, k ≠ 0 → k ≠ 11 → h2.2.1 196 k = h.2.1 196 k := fun k w1 w2 => by rw [← eg, zsI_no (by omega), zsI_no (by omega)]
  have h1 : h2.1 = hh_487.1 := by rw [← eg]; exact m.2.1.2.2.2
  have hA : lPA A c h2 := by rw [← eg]; exact (m.pa z.1.1).gd
  have B : cI A ≠ 0 → bgM A s h2 := fun ne => by rw [← eg]; exact (z.bm m ne).gd
  have er : h2.2.2.2.1 = h.2.2.2.1 := by rw [← eg]; rfl
  have q15 : h2.2.2.2.1 196 15 = some 199 := by rw [er]; exact m.r15
  have q17 : h2.2.2.2.1 196 17 = some 201 := by rw [er]; exact m.mw.2.1
  have z196 : zsh h2 196 = some (12, 39) := zsh_by h1 (by decide +kernel)
  have z199 : zsh h2 199 = some (14, 363) := zsh_by h1 (by decide +kernel)
  have z201 : zsh h2 201 = some (14, 76) := zsh_by h1 (by decide +kernel)
  have M : nMo A s 201 0 h2 := (z.lm m).1.1.fr (fun k => e2 _ _ (by decide))
  have hT := z.1.2.1
  have hB := z.1.2.2
  have hI := z.1.1.1
  have hN := z.2.1.1
  have k0 : (0 : Int32).toInt = 0 := by decide
  obtain ⟨b1, b2, b3, b4, b5⟩ := hI.2.2.1
  show zPn N none d mX12_box (0, [(0, .inr (.inr (some 196))), (1, .inl x), (2, .inl y)], [], h) _
  refine pa_aload_n (pc' := 1) dX12_box_0 rfl rfl ?_
  refine pa_callv (pc' := 4) (vs := []) (rest := []) dX12_box_1 ml_12_167 (by decide) rfl rfl rfl (fun d' _ => (m_good s196)) (fun v h3 hq => ?_)
  obtain ⟨ev, eh⟩ := hq
  subst ev
  show zPn N none d mX12_box (4, _, [], h3) _
  rw [eg] at eh
  subst eh
  refine pa_aload_n (pc' := 5) dX12_box_4 rfl rfl ?_
  refine pa_iload_n (pc' := 6) dX12_box_5 rfl rfl ?_
  refine pa_callv (pc' := 9) (vs := [.inl x]) (rest := []) dX12_box_6 ml_12_274 (by decide) rfl rfl rfl (fun d' _ => (M_isBox hA q15 h1)) (fun v g9 hq => ?_)
  obtain ⟨ev, eh⟩ := hq
  subst ev
  rw [eh]
  show zPn N none d mX12_box (9, _, [.inl (if 0 ≤ x.toInt ∧ x.toInt < (cB A:Int) then 1 else 0)], h3) _
  by_cases hx : 0 ≤ x.toInt ∧ x.toInt < (cB A : Int)
  case neg =>
    rw [if_neg hx]
    refine pa_if_t (pc' := 21) dX12_box_9 (by decide) (by decide) ?_
    refine pa_aload_n (pc' := 22) dX12_box_21 rfl rfl ?_
    refine pa_iconst (v := nI 1) (pc' := 23) dX12_box_22 (by decide) rfl ?_
    refine pa_callv (pc' := 26) (vs := [.inl (nI 1)]) (rest := []) dX12_box_23 ml_12_170 (by decide) rfl rfl rfl (fun d' _ => (m_no z196)) (fun v g hq => ?_)
    obtain ⟨ev, eh⟩ := hq
    subst ev
    show zPn N none d mX12_box (26, _, [.inl ((-1))], g) _
    refine pa_iret dX12_box_26 rfl rfl ?_
    unfold boV
    rw [if_neg (fun q => hx q.1)]
  obtain ⟨w, rfl, hw, ew⟩ := nI_ob hx.1 hx.2
  rw [if_pos hx]
  refine pa_if_f (pc' := 12) dX12_box_9 (by decide) (by decide) rfl ?_
  refine pa_iload_n (pc' := 13) dX12_box_12 rfl rfl ?_
  refine pa_iconst (v := 0) (pc' := 14) dX12_box_13 (by decide) rfl ?_
  refine pa_iconst (v := 5) (pc' := 15) dX12_box_14 (by decide) rfl ?_
  refine pa_calls (pc' := 18) (kd := 1) (vs := [.inl y, .inl 0, .inl 5]) (rest := []) dX12_box_15 ml_12_149 (.inl rfl) rfl rfl rfl (fun d' _ => in_v) (fun v g9 hq => ?_)
  obtain ⟨ev, eh⟩ := hq
  subst ev
  rw [eh]
  show zPn N none d mX12_box (18, _, [.inl (if ((0 : Int32)).toInt ≤ (y).toInt ∧ (y).toInt ≤ ((5 : Int32)).toInt then 1 else 0)], h3) _
  rw [k0, show (5 : Int32).toInt = 5 by decide]
  by_cases hy : 0 ≤ y.toInt ∧ y.toInt ≤ 5
  case neg =>
    rw [if_neg hy]
    refine pa_if_f (pc' := 21) dX12_box_18 (by decide) (by decide) rfl ?_
    refine pa_aload_n (pc' := 22) dX12_box_21 rfl rfl ?_
    refine pa_iconst (v := nI 1) (pc' := 23) dX12_box_22 (by decide) rfl ?_
    refine pa_callv (pc' := 26) (vs := [.inl (nI 1)]) (rest := []) dX12_box_23 ml_12_170 (by decide) rfl rfl rfl (fun d' _ => (m_no z196)) (fun v g hq => ?_)
    obtain ⟨ev, eh⟩ := hq
    subst ev
    show zPn N none d mX12_box (26, _, [.inl ((-1))], g) _
    refine pa_iret dX12_box_26 rfl rfl ?_
    unfold boV
    rw [if_neg (fun q => hy (by omega))]
  rw [if_pos hy]
  have hy : 0 ≤ y.toInt ∧ y.toInt < 6 := by omega
  refine pa_if_t (pc' := 27) dX12_box_18 (by decide) (by decide) ?_
  obtain ⟨q, rfl, hq, eq⟩ := nI_ob (n := 6) hy.1 hy.2
  have V : boV A s (nI w) (nI q) = boF A s w q := by
    unfold boV
    rw [if_pos ⟨hx, hy⟩, ew, eq]
  rw [V]
  clear V eq
  have B := B (hA.has hw)
  have d1 : h3.2.1 201 (12 + w) = tDy (s.2.2.2.2.1 w) := by rw [← (M.2.2.2 w hw).1, Nat.zero_add]
  have d2 : h3.2.1 201 (20 + w) = tGo (s.2.2.2.2.1 w) := by rw [← (M.2.2.2 w hw).2.1, Nat.zero_add]
  have oc := (hN.2.2 w hw).2.2
  refine pa_iload_n (pc' := 28) dX12_box_27 rfl rfl ?_
  refine pa_iconst (v := nI 4) (pc' := 29) dX12_box_28 (by decide) rfl ?_
  have fin : ∀ (v : Int32) (u : Option Nat) (N : Nat) (ls : zL), (match u with | some p => v = nI (p + 1) ∧ p ≤ 1000000 | none => v = 0) → zget ls 3 = some (.inl v) → zPn N none d mX12_box (66, ls, [], h3) (fun v' _ => v' = some (.inl (match u with | some p => nI p | none => -2))) := fun v u N ls hv l3 => by
    refine pa_iload_n (pc' := 67) dX12_box_66 l3 rfl ?_
    cases u with
    | none =>
      have hv : v = 0 := hv
      refine pa_if_f (pc' := 70) dX12_box_67 (decide_eq_false (not_not_intro hv)) (by decide) rfl ?_
      refine pa_bipush (v := (-2)) (pc' := 72) dX12_box_70 (by decide) rfl ?_
      refine pa_goto (pc' := 78) dX12_box_72 (by decide) ?_
      refine pa_iret dX12_box_78 rfl rfl ?_
      rfl
    | some p =>
      obtain ⟨hv, hp⟩ : v = nI (p + 1) ∧ p ≤ 1000000 := hv
      subst hv
      refine pa_if_t (pc' := 75) dX12_box_67 (decide_eq_true (fun q => by have := congrArg Int32.toInt q; rw [nI_toInt (by omega), k0] at this; omega)) (by decide) ?_
      refine pa_iload_n (pc' := 76) dX12_box_75 l3 rfl ?_
      refine pa_iconst (v := nI 1) (pc' := 77) dX12_box_76 (by decide) rfl ?_
      refine pa_isub (pc' := 78) (v := nI ((p + 1) - 1)) dX12_box_77 (nI_sub (by omega)) rfl ?_
      refine pa_iret dX12_box_78 rfl rfl ?_
      rw [Nat.add_sub_cancel]
  have hq : q < 4 ∨ q = 4 ∨ q = 5 := by omega
  rcases hq with hq4 | rfl | rfl
  · refine pa_icmp_f (pc' := 32) dX12_box_29 (zk_lt_ge (b := true) (zj_lt (by rw [nI_toInt (by omega), nI_toInt (by omega)]; omega))) (by decide) rfl ?_
    have e := (num_box hI hB hT hw).2.2.2.2 q hq4
    refine pa_aload_n (pc' := 33) dX12_box_32 rfl rfl ?_
    refine pa_iload_n (pc' := 34) dX12_box_33 rfl rfl ?_
    refine pa_iload_n (pc' := 35) dX12_box_34 rfl rfl ?_
    refine pa_callv (pc' := 38) (vs := [.inl (nI w), .inl (nI q)]) (rest := []) dX12_box_35 ml_12_262 (by decide) rfl rfl rfl (fun d' _ => (M_ofBox h1 q15 (by omega) hq4 ((B.2.2.2.2.2 w hw q hq4).trans e))) (fun v g9 hq => ?_)
    obtain ⟨ev, eh⟩ := hq
    subst ev
    rw [eh]
    show zPn N none d mX12_box (38, _, [.inl (nI (nu A (127 + 4 * w + q)))], h3) _
    refine pa_iret dX12_box_38 rfl rfl ?_
    have hq : q = 0 ∨ q = 1 ∨ q = 2 ∨ q = 3 := by omega
    rcases hq with rfl | rfl | rfl | rfl
    · rfl
    · show (some (Sum.inl (nI (nu A (127 + 4 * w + 1)))) : Option zV) = some (Sum.inl (nI (nu A (128 + 4 * w))))
      rw [show 127 + 4 * w + 1 = 128 + 4 * w by omega]
    · show (some (Sum.inl (nI (nu A (127 + 4 * w + 2)))) : Option zV) = some (Sum.inl (nI (nu A (129 + 4 * w))))
      rw [show 127 + 4 * w + 2 = 129 + 4 * w by omega]
    · show (some (Sum.inl (nI (nu A (127 + 4 * w + 3)))) : Option zV) = some (Sum.inl (nI (nu A (130 + 4 * w))))
      rw [show 127 + 4 * w + 3 = 130 + 4 * w by omega]
  · refine pa_icmp_t (pc' := 39) dX12_box_29 (by decide) (by decide) ?_
    refine pa_iload_n (pc' := 40) dX12_box_39 rfl rfl ?_
    refine pa_iconst (v := nI 4) (pc' := 41) dX12_box_40 (by decide) rfl ?_
    refine pa_icmp_f (pc' := 44) dX12_box_41 (by decide) (by decide) rfl ?_
    refine pa_aload_n (pc' := 45) dX12_box_44 rfl rfl ?_
    refine pa_getR (pc' := 48) (n := 39) (r := 201) dX12_box_45 fl_12_26 z196 (by decide) q17 rfl ?_
    refine pa_bipush (v := nI 12) (pc' := 50) dX12_box_48 (by decide) rfl ?_
    refine pa_iload_n (pc' := 51) dX12_box_50 rfl rfl ?_
    refine pa_iadd (pc' := 52) (v := nI (12 + w)) dX12_box_51 (nI_add _ _) rfl ?_
    refine pa_iald (pc' := 53) dX12_box_52 z201 rfl (fun _ => ?_)
    rw [nI_clamp (by omega), d1]
    refine pa_goto (pc' := 65) dX12_box_53 (by decide) ?_
    refine pa_istore_n (pc' := 66) dX12_box_65 (by decide) rfl rfl ?_
    refine (fin _ ((s.2.2.2.2.1 w).map (fun p => p.1)) _ _ ?_ rfl).mono (fun v h' e => ?_)
    · cases o : s.2.2.2.2.1 w with
      | none => rfl
      | some p =>
        have := (oc p o).2
        have nb := nSn_le s (cB A)
        exact ⟨rfl, (by omega : p.1 ≤ 1000000)⟩
    · rw [e]
      show _ = (some (Sum.inl (sDy (s.2.2.2.2.1 w))) : Option zV)
      cases s.2.2.2.2.1 w <;> rfl
  · refine pa_icmp_t (pc' := 39) dX12_box_29 (by decide) (by decide) ?_
    refine pa_iload_n (pc' := 40) dX12_box_39 rfl rfl ?_
    refine pa_iconst (v := nI 4) (pc' := 41) dX12_box_40 (by decide) rfl ?_
    refine pa_icmp_t (pc' := 56) dX12_box_41 (by decide) (by decide) ?_
    refine pa_aload_n (pc' := 57) dX12_box_56 rfl rfl ?_
    refine pa_getR (pc' := 60) (n := 39) (r := 201) dX12_box_57 fl_12_26 z196 (by decide) q17 rfl ?_
    refine pa_bipush (v := nI 20) (pc' := 62) dX12_box_60 (by decide) rfl ?_
    refine pa_iload_n (pc' := 63) dX12_box_62 rfl rfl ?_
    refine pa_iadd (pc' := 64) (v := nI (20 + w)) dX12_box_63 (nI_add _ _) rfl ?_
    refine pa_iald (pc' := 65) dX12_box_64 z201 rfl (fun _ => ?_)
    rw [nI_clamp (by omega), d2]
    refine pa_istore_n (pc' := 66) dX12_box_65 (by decide) rfl rfl ?_
    refine (fin _ ((s.2.2.2.2.1 w).map (fun p => p.2)) _ _ ?_ rfl).mono (fun v h' e => ?_)
    · cases o : s.2.2.2.2.1 w with
      | none => rfl
      | some p =>
        have := (oc p o).1
        exact ⟨rfl, (by omega : p.2 ≤ 1000000)⟩
    · rw [e]
      show _ = (some (Sum.inl (sGo (s.2.2.2.2.1 w))) : Option zV)
      cases s.2.2.2.2.1 w <;> rfl
end AN1
/-! answers: sung, heard, note -/
/-- the days' numbers: those that hear nearest -/
def hfA (A : pA) (w : List Int32) (y : Nat) : Nat × Nat × Int32 := hFo A (w.map (rsL (ntA A) (fL (nu A 2) (ntA A) y))) (cI A)
def heV (A : pA) (s : nS) (x : Int32) (f : Nat → Int32) : Int32 := if 0 ≤ x.toInt ∧ x.toInt < (cB A : Int) then f x.toInt.toNat else -1
def noV (A : pA) (s : nS) (x y : Int32) : Int32 := if (0 ≤ x.toInt ∧ x.toInt < (cI A : Int)) ∧ 0 ≤ y.toInt ∧ y.toInt < ((A.2.2.1 x.toInt.toNat).length : Int) then nI ((dg ((A.2.2.1 x.toInt.toNat).getD y.toInt.toNat 0) + ntA A - fL (nu A 2) (ntA A) s.1) % ntA A) else -1
section AN2
variable {t d N c w b : Nat} {h g : zH} {A : pA} {s : nS} {H J : List nS} {x y : Int32} {kk : Bool} {im : Int32}
theorem lb_ok (hI : pI A) (hB : tB A) (hT : tA A) (hb : b < cB A) : lB A b ≤ 6 ∧ 2 ≤ lB A b := by
  obtain ⟨-, q2, -⟩ := num_box hI hB hT hb
  obtain ⟨-, a, b, -⟩ := okN_of hI q2
  exact ⟨a, b⟩
theorem N_isNote (z : lZ A c s H J h) (hi : lInv t h) : zPa d mX11_isNoteOfBox [.inr (.inr (some 0)), .inl x, .inl y] h (fun v g => v = some (.inl (if (0 ≤ x.toInt ∧ x.toInt < (cB A : Int)) ∧ 0 ≤ y.toInt ∧ y.toInt < (lB A x.toInt.toNat : Int) then 1 else 0)) ∧ g = h) := by
  intro N
  have h1 := hi.2.2.2.2.1
  have hA := z.1.1
  have hT := z.1.2.1
  have hB := z.1.2.2
  have hI := hA.1
  have hN := z.2.1.1
  have K := hA.2.2.2.1
  have hc2 : c = 2 ∨ c = 42 := hA.2.1
  obtain ⟨b1, b2, b3, b4, b5⟩ := hI.2.2.1
  have s0 : zsh h 0 = some (11, 16) := zsh_by h1 (by decide +kernel)
  obtain ⟨sc, sc1, sc2, sc4, sc5, scw, scb⟩ := cSh hA.2.1 h1
  obtain ⟨c9, c12, c13, cw, cb⟩ := cRf_of hi.1 hA.2.1
  have S := hi.nw
  obtain ⟨⟨s86, s87, s88, s89, s90, s91⟩, r87, r88, r89, r90, r91⟩ := S.o86
  have r3 := hA.2.2.1
  have r6 := S.2.1
  obtain ⟨n1, n2, n3, n4⟩ := z.2.2.1.1
  have k0 : (0 : Int32).toInt = 0 := by decide
  have no : ¬ ((0 ≤ x.toInt ∧ x.toInt < (cB A : Int)) ∧ 0 ≤ y.toInt ∧ y.toInt < (lB A x.toInt.toNat : Int)) → ∀ N, zPn N none d mX11_isNoteOfBox (28, [(0, .inr (.inr (some 0))), (1, .inl x), (2, .inl y)], [], h) (fun v g => v = some (.inl (if (0 ≤ x.toInt ∧ x.toInt < (cB A : Int)) ∧ 0 ≤ y.toInt ∧ y.toInt < (lB A x.toInt.toNat : Int) then 1 else 0)) ∧ g = h) := fun q N => by
    refine pa_iconst (v := 0) (pc' := 29) dX11_isNoteOfBox_28 (by decide) rfl ?_
    refine pa_iret dX11_isNoteOfBox_29 rfl rfl ?_
    exact ⟨by rw [if_neg q], rfl⟩
  show zPn N none d mX11_isNoteOfBox (0, [(0, .inr (.inr (some 0))), (1, .inl x), (2, .inl y)], [], h) _
  refine pa_aload_n (pc' := 1) dX11_isNoteOfBox_0 rfl rfl ?_
  refine pa_iload_n (pc' := 2) dX11_isNoteOfBox_1 rfl rfl ?_
  refine pa_callv (pc' := 5) (vs := [.inl x]) (rest := []) dX11_isNoteOfBox_2 ml_11_147 (by decide) rfl rfl rfl (fun d' _ => (N_isBox hA h1)) (fun v g9 hq => ?_)
  obtain ⟨ev, eh⟩ := hq
  subst ev
  rw [eh]
  show zPn N none d mX11_isNoteOfBox (5, _, [.inl (if 0 ≤ x.toInt ∧ x.toInt < (cB A:Int) then 1 else 0)], h) _
  by_cases hx : 0 ≤ x.toInt ∧ x.toInt < (cB A : Int)
  case neg =>
    rw [if_neg hx]
    refine pa_if_t (pc' := 28) dX11_isNoteOfBox_5 (by decide) (by decide) ?_
    exact no (fun q => hx q.1) _
  rw [if_pos hx]
  refine pa_if_f (pc' := 8) dX11_isNoteOfBox_5 (by decide) (by decide) rfl ?_
  refine pa_iload_n (pc' := 9) dX11_isNoteOfBox_8 rfl rfl ?_
  refine pa_if (pc' := 28) (pc2 := 12) dX11_isNoteOfBox_9 (by decide) rfl (fun q => ?_) (fun q => ?_)
  · have q := zi_lt q
    rw [k0] at q
    exact no (fun q' => by omega) _
  have q := zi_nlt q
  rw [k0] at q
  obtain ⟨w, ex, hw, ew⟩ := nI_ob hx.1 hx.2
  obtain ⟨l6, l2⟩ := lb_ok hI hB hT hw
  have BL : ∀ d', zPa d' mX4_boxLength [.inr (.inr (some c)), .inl x] h (fun v g => v = some (.inl (nI (lB A x.toInt.toNat))) ∧ g = h) := fun d' => by
    rw [ew, ex]
    exact N_boxLength (z.bc hi (hA.has hw)) hw
  refine pa_iload_n (pc' := 13) dX11_isNoteOfBox_12 rfl rfl ?_
  refine pa_aload_n (pc' := 14) dX11_isNoteOfBox_13 rfl rfl ?_
  refine pa_getR (pc' := 17) (n := 16) (r := c) dX11_isNoteOfBox_14 fl_11_23 s0 (by decide) r3 rfl ?_
  refine pa_iload_n (pc' := 18) dX11_isNoteOfBox_17 rfl rfl ?_
  refine pa_callv (pc' := 21) (vs := [.inl x]) (rest := [.inl y]) dX11_isNoteOfBox_18 ml_11_198 (by decide) rfl rfl rfl (fun d' _ => (BL d')) (fun v g9 hq => ?_)
  obtain ⟨ev, eh⟩ := hq
  subst ev
  rw [eh]
  show zPn N none d mX11_isNoteOfBox (21, _, [.inl (nI (lB A x.toInt.toNat)), .inl y], h) _
  refine pa_icmp (pc' := 28) (pc2 := 24) dX11_isNoteOfBox_21 (by decide) rfl (fun u => ?_) (fun u => ?_)
  · have u := zi_nlt (zk_ge_lt u)
    rw [ew, nI_toInt (by omega)] at u
    exact no (fun q' => by rw [ew] at q'; omega) _
  have u := zi_lt (zk_ge_lt u)
  rw [nI_toInt (by rw [ew]; omega)] at u
  refine pa_iconst (v := 1) (pc' := 25) dX11_isNoteOfBox_24 (by decide) rfl ?_
  refine pa_goto (pc' := 29) dX11_isNoteOfBox_25 (by decide) ?_
  refine pa_iret dX11_isNoteOfBox_29 rfl rfl ?_
  exact ⟨by rw [if_pos ⟨hx, by omega, u⟩], rfl⟩
theorem N_sung11 (z : lZ A c s H J h) (hi : lInv t h) : zPa d mX11_sung [.inr (.inr (some 0)), .inl x, .inl y] h (fun v _ => v = some (.inl (suV A s x y))) := by
  intro N
  have h1 := hi.2.2.2.2.1
  have hA := z.1.1
  have hT := z.1.2.1
  have hB := z.1.2.2
  have hI := hA.1
  have hN := z.2.1.1
  have K := hA.2.2.2.1
  have hc2 : c = 2 ∨ c = 42 := hA.2.1
  obtain ⟨b1, b2, b3, b4, b5⟩ := hI.2.2.1
  have s0 : zsh h 0 = some (11, 16) := zsh_by h1 (by decide +kernel)
  obtain ⟨sc, sc1, sc2, sc4, sc5, scw, scb⟩ := cSh hA.2.1 h1
  obtain ⟨c9, c12, c13, cw, cb⟩ := cRf_of hi.1 hA.2.1
  have S := hi.nw
  obtain ⟨⟨s86, s87, s88, s89, s90, s91⟩, r87, r88, r89, r90, r91⟩ := S.o86
  have r3 := hA.2.2.1
  have r6 := S.2.1
  obtain ⟨n1, n2, n3, n4⟩ := z.2.2.1.1
  show zPn N none d mX11_sung (0, [(0, .inr (.inr (some 0))), (1, .inl x), (2, .inl y)], [], h) _
  refine pa_aload_n (pc' := 1) dX11_sung_0 rfl rfl ?_
  refine pa_iload_n (pc' := 2) dX11_sung_1 rfl rfl ?_
  refine pa_iload_n (pc' := 3) dX11_sung_2 rfl rfl ?_
  refine pa_callv (pc' := 6) (vs := [.inl x, .inl y]) (rest := []) dX11_sung_3 ml_11_191 (by decide) rfl rfl rfl (fun d' _ => (N_isNote z hi)) (fun v g9 hq => ?_)
  obtain ⟨ev, eh⟩ := hq
  subst ev
  rw [eh]
  show zPn N none d mX11_sung (6, _, [.inl (if (0 ≤ x.toInt ∧ x.toInt < (cB A:Int)) ∧ 0 ≤ y.toInt ∧ y.toInt < (lB A x.toInt.toNat:Int) then 1 else 0)], h) _
  by_cases hx : (0 ≤ x.toInt ∧ x.toInt < (cB A : Int)) ∧ 0 ≤ y.toInt ∧ y.toInt < (lB A x.toInt.toNat : Int)
  case neg =>
    rw [if_neg hx]
    refine pa_if_f (pc' := 9) dX11_sung_6 (by decide) (by decide) rfl ?_
    refine pa_aload_n (pc' := 10) dX11_sung_9 rfl rfl ?_
    refine pa_iconst (v := nI 1) (pc' := 11) dX11_sung_10 (by decide) rfl ?_
    refine pa_callv (pc' := 14) (vs := [.inl (nI 1)]) (rest := []) dX11_sung_11 ml_11_98 (by decide) rfl rfl rfl (fun d' _ => (c_ref s0)) (fun v g hq => ?_)
    obtain ⟨ev, eh⟩ := hq
    subst ev
    show zPn N none d mX11_sung (14, _, [.inl ((-1))], g) _
    refine pa_iret dX11_sung_14 rfl rfl ?_
    unfold suV
    rw [if_neg hx]
  rw [if_pos hx]
  obtain ⟨b, rfl, hb, eb⟩ := nI_ob hx.1.1 hx.1.2
  obtain ⟨k, rfl, hk, ek⟩ := nI_ob hx.2.1 hx.2.2
  rw [eb] at hk
  obtain ⟨l6, l2⟩ := lb_ok hI hB hT hb
  obtain ⟨ok, ol, -⟩ := hN.2.2 b hb
  have B := z.bc hi (hA.has hb)
  have n4' := B.2.2.1.2.2.2.2.1.2.1
  have e5 : h.2.1 91 b = codeS (s.2.2.2.2.2 b) := (n4 b hb).2.2
  refine pa_if_t (pc' := 15) dX11_sung_6 (by decide) (by decide) ?_
  refine pa_aload_n (pc' := 16) dX11_sung_15 rfl rfl ?_
  refine pa_aload_n (pc' := 17) dX11_sung_16 rfl rfl ?_
  refine pa_getR (pc' := 20) (n := 16) (r := 86) dX11_sung_17 fl_11_42 s0 (by decide) r6 rfl ?_
  refine pa_getR (pc' := 23) (n := 7) (r := 91) dX11_sung_20 fl_11_195 s86 (by decide) r91 rfl ?_
  refine pa_iload_n (pc' := 24) dX11_sung_23 rfl rfl ?_
  refine pa_iald (pc' := 25) dX11_sung_24 s91 rfl (fun _ => ?_)
  rw [nI_clamp (by omega), e5]
  refine pa_aload_n (pc' := 26) dX11_sung_25 rfl rfl ?_
  refine pa_getR (pc' := 29) (n := 16) (r := c) dX11_sung_26 fl_11_23 s0 (by decide) r3 rfl ?_
  refine pa_iload_n (pc' := 30) dX11_sung_29 rfl rfl ?_
  refine pa_callv (pc' := 33) (vs := [.inl (nI b)]) (rest := [.inl (codeS (s.2.2.2.2.2 b)), .inr (.inr (some 0))]) dX11_sung_30 ml_11_198 (by decide) rfl rfl rfl (fun d' _ => (N_boxLength B hb)) (fun v g9 hq => ?_)
  obtain ⟨ev, eh⟩ := hq
  subst ev
  rw [eh]
  show zPn N none d mX11_sung (33, _, [.inl (nI (lB A b)), .inl (codeS (s.2.2.2.2.2 b)), .inr (.inr (some 0))], h) _
  refine pa_iload_n (pc' := 34) dX11_sung_33 rfl rfl ?_
  refine pa_calls (pc' := 37) (kd := 1) (vs := [.inl (codeS (s.2.2.2.2.2 b)), .inl (nI (lB A b)), .inl (nI k)]) (rest := [.inr (.inr (some 0))]) dX11_sung_34 ml_11_187 (.inl rfl) rfl rfl rfl (fun d' _ => (N_noteAt (ok.nt n4') ol l6 hk)) (fun v g9 hq => ?_)
  obtain ⟨ev, eh⟩ := hq
  subst ev
  rw [eh]
  show zPn N none d mX11_sung (37, _, [.inl (nI (dg ((s.2.2.2.2.2 b).getD k 0))), .inr (.inr (some 0))], h) _
  refine pa_callv (pc' := 40) (vs := [.inl (nI (dg ((s.2.2.2.2.2 b).getD k 0)))]) (rest := []) dX11_sung_37 ml_11_112 (by decide) rfl rfl rfl (fun d' _ => (c_gra s0)) (fun v g hq => ?_)
  obtain ⟨ev, eh⟩ := hq
  subst ev
  show zPn N none d mX11_sung (40, _, [.inl (nI ((dg ((s.2.2.2.2.2 b).getD k 0))))], g) _
  refine pa_iret dX11_sung_40 rfl rfl ?_
  unfold suV
  rw [if_pos hx, eb, ek]
theorem N_sung12 (z : lZ A c s H J g) (m : lMid kk im t g h) : zPa d mX12_sung [.inr (.inr (some 196)), .inl x, .inl y] h (fun v _ => v = some (.inl (suV A s x y))) := by
  intro N
  have s196 : zsh h 196 = some (12, 39) := zsh_by m.2.1.2.2.2 (by decide +kernel)
  generalize eg : zsI (zsI h 196 0 0) 196 11 0 = h2
  have e2 : ∀ a k, a ≠ 196 → h2.2.1 a k = h.2.1 a k := fun a k ha => by rw [← eg, zsI_no (by omega), zsI_no (by omega)]
  have e3 : ∀ k, k ≠ 0 → k ≠ 11 → h2.2.1 196 k = h.2.1 196 k := fun k w1 w2 => by rw [← eg, zsI_no (by omega), zsI_no (by omega)]
  have h1 : h2.1 = hh_487.1 := by rw [← eg]; exact m.2.1.2.2.2
  have hA : lPA A c h2 := by rw [← eg]; exact (m.pa z.1.1).gd
  have B : cI A ≠ 0 → bgM A s h2 := fun ne => by rw [← eg]; exact (z.bm m ne).gd
  have er : h2.2.2.2.1 = h.2.2.2.1 := by rw [← eg]; rfl
  have q15 : h2.2.2.2.1 196 15 = some 199 := by rw [er]; exact m.r15
  have q17 : h2.2.2.2.1 196 17 = some 201 := by rw [er]; exact m.mw.2.1
  have z196 : zsh h2 196 = some (12, 39) := zsh_by h1 (by decide +kernel)
  have z199 : zsh h2 199 = some (14, 363) := zsh_by h1 (by decide +kernel)
  have z201 : zsh h2 201 = some (14, 76) := zsh_by h1 (by decide +kernel)
  have M : nMo A s 201 0 h2 := (z.lm m).1.1.fr (fun k => e2 _ _ (by decide))
  have hT := z.1.2.1
  have hB := z.1.2.2
  have hI := z.1.1.1
  have hN := z.2.1.1
  have k0 : (0 : Int32).toInt = 0 := by decide
  obtain ⟨b1, b2, b3, b4, b5⟩ := hI.2.2.1
  show zPn N none d mX12_sung (0, [(0, .inr (.inr (some 196))), (1, .inl x), (2, .inl y)], [], h) _
  refine pa_aload_n (pc' := 1) dX12_sung_0 rfl rfl ?_
  refine pa_callv (pc' := 4) (vs := []) (rest := []) dX12_sung_1 ml_12_167 (by decide) rfl rfl rfl (fun d' _ => (m_good s196)) (fun v h3 hq => ?_)
  obtain ⟨ev, eh⟩ := hq
  subst ev
  show zPn N none d mX12_sung (4, _, [], h3) _
  rw [eg] at eh
  subst eh
  refine pa_aload_n (pc' := 5) dX12_sung_4 rfl rfl ?_
  refine pa_iload_n (pc' := 6) dX12_sung_5 rfl rfl ?_
  refine pa_callv (pc' := 9) (vs := [.inl x]) (rest := []) dX12_sung_6 ml_12_274 (by decide) rfl rfl rfl (fun d' _ => (M_isBox hA q15 h1)) (fun v g9 hq => ?_)
  obtain ⟨ev, eh⟩ := hq
  subst ev
  rw [eh]
  show zPn N none d mX12_sung (9, _, [.inl (if 0 ≤ x.toInt ∧ x.toInt < (cB A:Int) then 1 else 0)], h3) _
  by_cases hx : 0 ≤ x.toInt ∧ x.toInt < (cB A : Int)
  case neg =>
    rw [if_neg hx]
    refine pa_if_t (pc' := 44) dX12_sung_9 (by decide) (by decide) ?_
    refine pa_aload_n (pc' := 45) dX12_sung_44 rfl rfl ?_
    refine pa_iconst (v := nI 1) (pc' := 46) dX12_sung_45 (by decide) rfl ?_
    refine pa_callv (pc' := 49) (vs := [.inl (nI 1)]) (rest := []) dX12_sung_46 ml_12_170 (by decide) rfl rfl rfl (fun d' _ => (m_no z196)) (fun v g hq => ?_)
    obtain ⟨ev, eh⟩ := hq
    subst ev
    show zPn N none d mX12_sung (49, _, [.inl ((-1))], g) _
    refine pa_iret dX12_sung_49 rfl rfl ?_
    unfold suV
    rw [if_neg (fun q => hx q.1)]
  rw [if_pos hx]
  obtain ⟨b, rfl, hb, eb⟩ := nI_ob hx.1 hx.2
  obtain ⟨l6, l2⟩ := lb_ok hI hB hT hb
  have B := B (hA.has hb)
  have eto : h3.2.1 199 (127 + 4 * b + 1) = nI (nu A (128 + 4 * b)) := by
    rw [B.2.2.2.2.2 b hb 1 (by decide), (num_box hI hB hT hb).2.2.2.2 1 (by decide), show 127 + 4 * b + 1 = 128 + 4 * b by omega]
  refine pa_if_f (pc' := 12) dX12_sung_9 (by decide) (by decide) rfl ?_
  refine pa_iload_n (pc' := 13) dX12_sung_12 rfl rfl ?_
  refine pa_iconst (v := 0) (pc' := 14) dX12_sung_13 (by decide) rfl ?_
  refine pa_aload_n (pc' := 15) dX12_sung_14 rfl rfl ?_
  refine pa_iload_n (pc' := 16) dX12_sung_15 rfl rfl ?_
  refine pa_callv (pc' := 19) (vs := [.inl (nI b)]) (rest := [.inl 0, .inl y]) dX12_sung_16 ml_12_284 (by decide) rfl rfl rfl (fun d' _ => (M_boxLong B.2.2.1 (by omega) eto (num_box hI hB hT hb).2.1)) (fun v g9 hq => ?_)
  obtain ⟨ev, eh⟩ := hq
  subst ev
  rw [eh]
  show zPn N none d mX12_sung (19, _, [.inl (nI (lB A b)), .inl 0, .inl y], h3) _
  refine pa_iconst (v := nI 1) (pc' := 20) dX12_sung_19 (by decide) rfl ?_
  refine pa_isub (pc' := 21) (v := nI ((lB A b) - 1)) dX12_sung_20 (nI_sub (by omega)) rfl ?_
  refine pa_calls (pc' := 24) (kd := 1) (vs := [.inl y, .inl 0, .inl (nI ((lB A b) - 1))]) (rest := []) dX12_sung_21 ml_12_149 (.inl rfl) rfl rfl rfl (fun d' _ => in_v) (fun v g9 hq => ?_)
  obtain ⟨ev, eh⟩ := hq
  subst ev
  rw [eh]
  show zPn N none d mX12_sung (24, _, [.inl (if ((0 : Int32)).toInt ≤ (y).toInt ∧ (y).toInt ≤ ((nI ((lB A b) - 1))).toInt then 1 else 0)], h3) _
  rw [k0, nI_toInt (n := lB A b - 1) (by omega)]
  by_cases hy : 0 ≤ y.toInt ∧ y.toInt ≤ ((lB A b - 1 : Nat) : Int)
  case neg =>
    rw [if_neg hy]
    refine pa_if_t (pc' := 44) dX12_sung_24 (by decide) (by decide) ?_
    refine pa_aload_n (pc' := 45) dX12_sung_44 rfl rfl ?_
    refine pa_iconst (v := nI 1) (pc' := 46) dX12_sung_45 (by decide) rfl ?_
    refine pa_callv (pc' := 49) (vs := [.inl (nI 1)]) (rest := []) dX12_sung_46 ml_12_170 (by decide) rfl rfl rfl (fun d' _ => (m_no z196)) (fun v g hq => ?_)
    obtain ⟨ev, eh⟩ := hq
    subst ev
    show zPn N none d mX12_sung (49, _, [.inl ((-1))], g) _
    refine pa_iret dX12_sung_49 rfl rfl ?_
    unfold suV
    rw [eb, if_neg (fun q => hy (by omega))]
  rw [if_pos hy]
  obtain ⟨k, rfl, hk, ek⟩ := nI_ob (n := lB A b) hy.1 (by omega)
  have q : h3.2.1 201 (28 + 6 * b + k) = nI (dg ((s.2.2.2.2.2 b).getD k 0)) := by
    have := (M.2.2.2 b hb).2.2 k (by rw [(hN.2.2 b hb).2.1]; exact hk)
    rw [Nat.zero_add] at this
    exact this
  refine pa_if_f (pc' := 27) dX12_sung_24 (by decide) (by decide) rfl ?_
  refine pa_aload_n (pc' := 28) dX12_sung_27 rfl rfl ?_
  refine pa_getR (pc' := 31) (n := 39) (r := 201) dX12_sung_28 fl_12_26 z196 (by decide) q17 rfl ?_
  refine pa_bipush (v := nI 28) (pc' := 33) dX12_sung_31 (by decide) rfl ?_
  refine pa_bipush (v := nI 6) (pc' := 35) dX12_sung_33 (by decide) rfl ?_
  refine pa_iload_n (pc' := 36) dX12_sung_35 rfl rfl ?_
  refine pa_imul (pc' := 37) (v := nI (6 * b)) dX12_sung_36 (nI_mul _ _) rfl ?_
  refine pa_iadd (pc' := 38) (v := nI (28 + 6 * b)) dX12_sung_37 (nI_add _ _) rfl ?_
  refine pa_iload_n (pc' := 39) dX12_sung_38 rfl rfl ?_
  refine pa_iadd (pc' := 40) (v := nI (28 + 6 * b + k)) dX12_sung_39 (nI_add _ _) rfl ?_
  refine pa_iald (pc' := 41) dX12_sung_40 z201 rfl (fun _ => ?_)
  rw [nI_clamp (by omega), q]
  refine pa_goto (pc' := 49) dX12_sung_41 (by decide) ?_
  refine pa_iret dX12_sung_49 rfl rfl ?_
  unfold suV
  rw [if_pos ⟨hx, by rw [eb]; omega⟩, eb, ek]
theorem N_hearerIn (B : bgC A c s h) (h0 : h.2.2.2.1 0 7 = some 92 ∧ h.2.2.2.1 0 6 = some 86 ∧ h.2.2.2.1 0 3 = some c) (hb : b < cB A) {yr : Nat} (hy : yr ≤ 20000) : zPa d mX11_hearerIn [.inr (.inr (some 0)), .inl (nI b), .inl (nI yr)] h (fun v g => v = some (.inl (heA A (s.2.2.2.2.2 b) yr)) ∧ gF 92 h g ∧ g.2.1 92 2 = nI (hfA A (s.2.2.2.2.2 b) yr).1 ∧ g.2.1 92 3 = nI (hfA A (s.2.2.2.2.2 b) yr).2.1) := by
  intro N
  obtain ⟨hI, hT, hB, hN⟩ := B.1
  obtain ⟨r7, r6, r3⟩ := h0
  obtain ⟨l6, l2⟩ := lb_ok hI hB hT hb
  obtain ⟨ok, ol, -⟩ := hN.2.2 b hb
  have b4 := hI.2.2.1.2.2.2.1
  have h1 := B.2.1.1
  have s0 : zsh h 0 = some (11, 16) := zsh_by h1 (by decide +kernel)
  have s86 : zsh h 86 = some (2, 7) := zsh_by h1 (by decide +kernel)
  have s91 : zsh h 91 = some (14, 8) := zsh_by h1 (by decide +kernel)
  have r91 := B.2.2.2.2.1.2.2.2.2.1
  have e5 : h.2.1 91 b = codeS (s.2.2.2.2.2 b) := (B.2.2.2.1.2.2.2 b hb).2.2
  have e : hRe (nu A 1) (hfA A (s.2.2.2.2.2 b) yr) = heA A (s.2.2.2.2.2 b) yr := hear_eq B.2.2.1.2.2.2.2.1.1 B.2.2.1.2.2.2.2.1.2.1 B.2.2.1.2.2.2.2.1.2.2.2.1 (fun i hi => (B.2.2.1.2.2.2.2.2 i hi).2.2.1) ok (by omega)
  show zPn N none d mX11_hearerIn (0, [(0, .inr (.inr (some 0))), (1, .inl (nI b)), (2, .inl (nI yr))], [], h) _
  refine pa_aload_n (pc' := 1) dX11_hearerIn_0 rfl rfl ?_
  refine pa_getR (pc' := 4) (n := 16) (r := 92) dX11_hearerIn_1 fl_11_51 s0 (by decide) r7 rfl ?_
  refine pa_aload_n (pc' := 5) dX11_hearerIn_4 rfl rfl ?_
  refine pa_getR (pc' := 8) (n := 16) (r := 86) dX11_hearerIn_5 fl_11_42 s0 (by decide) r6 rfl ?_
  refine pa_getR (pc' := 11) (n := 7) (r := 91) dX11_hearerIn_8 fl_11_195 s86 (by decide) r91 rfl ?_
  refine pa_iload_n (pc' := 12) dX11_hearerIn_11 rfl rfl ?_
  refine pa_iald (pc' := 13) dX11_hearerIn_12 s91 rfl (fun _ => ?_)
  rw [nI_clamp (by omega), e5]
  refine pa_aload_n (pc' := 14) dX11_hearerIn_13 rfl rfl ?_
  refine pa_getR (pc' := 17) (n := 16) (r := c) dX11_hearerIn_14 fl_11_23 s0 (by decide) r3 rfl ?_
  refine pa_iload_n (pc' := 18) dX11_hearerIn_17 rfl rfl ?_
  refine pa_callv (pc' := 21) (vs := [.inl (nI b)]) (rest := [.inl (codeS (s.2.2.2.2.2 b)), .inr (.inr (some 92))]) dX11_hearerIn_18 ml_11_198 (by decide) rfl rfl rfl (fun d' _ => (N_boxLength B hb)) (fun v g9 hq => ?_)
  obtain ⟨ev, eh⟩ := hq
  subst ev
  rw [eh]
  show zPn N none d mX11_hearerIn (21, _, [.inl (nI (lB A b)), .inl (codeS (s.2.2.2.2.2 b)), .inr (.inr (some 92))], h) _
  refine pa_iload_n (pc' := 22) dX11_hearerIn_21 rfl rfl ?_
  refine pa_callv (pc' := 25) (vs := [.inl (codeS (s.2.2.2.2.2 b)), .inl (nI (lB A b)), .inl (nI yr)]) (rest := []) dX11_hearerIn_22 ml_11_277 (by decide) rfl rfl rfl (fun d' _ => (N_hearerOf B.2.2.1 ok ol l6 hy)) (fun v g hq => ?_)
  obtain ⟨ev, eh⟩ := hq
  subst ev
  show zPn N none d mX11_hearerIn (25, _, [.inl (hRe (nu A 1) (hfA A (s.2.2.2.2.2 b) yr))], g) _
  refine pa_iret dX11_hearerIn_25 rfl rfl ?_
  rw [e]
  exact ⟨rfl, eh⟩
theorem lInv.h0 (hi : lInv t h) (hA : lPA A c h) : h.2.2.2.1 0 7 = some 92 ∧ h.2.2.2.1 0 6 = some 86 ∧ h.2.2.2.1 0 3 = some c := ⟨hi.1.2.2.1 0 7 92 (by decide +kernel), hi.1.2.2.1 0 6 86 (by decide +kernel), hA.2.2.1⟩
theorem N_heard11 (z : lZ A c s H J h) (hi : lInv t h) : zPa d mX11_heard [.inr (.inr (some 0)), .inl x] h (fun v _ => v = some (.inl (heV A s x (fun b => heA A (s.2.2.2.2.2 b) s.1)))) := by
  intro N
  have h1 := hi.2.2.2.2.1
  have hA := z.1.1
  have hT := z.1.2.1
  have hB := z.1.2.2
  have hI := hA.1
  have hN := z.2.1.1
  have K := hA.2.2.2.1
  have hc2 : c = 2 ∨ c = 42 := hA.2.1
  obtain ⟨b1, b2, b3, b4, b5⟩ := hI.2.2.1
  have s0 : zsh h 0 = some (11, 16) := zsh_by h1 (by decide +kernel)
  obtain ⟨sc, sc1, sc2, sc4, sc5, scw, scb⟩ := cSh hA.2.1 h1
  obtain ⟨c9, c12, c13, cw, cb⟩ := cRf_of hi.1 hA.2.1
  have S := hi.nw
  obtain ⟨⟨s86, s87, s88, s89, s90, s91⟩, r87, r88, r89, r90, r91⟩ := S.o86
  have r3 := hA.2.2.1
  have r6 := S.2.1
  obtain ⟨n1, n2, n3, n4⟩ := z.2.2.1.1
  show zPn N none d mX11_heard (0, [(0, .inr (.inr (some 0))), (1, .inl x)], [], h) _
  refine pa_aload_n (pc' := 1) dX11_heard_0 rfl rfl ?_
  refine pa_iload_n (pc' := 2) dX11_heard_1 rfl rfl ?_
  refine pa_callv (pc' := 5) (vs := [.inl x]) (rest := []) dX11_heard_2 ml_11_147 (by decide) rfl rfl rfl (fun d' _ => (N_isBox hA h1)) (fun v g9 hq => ?_)
  obtain ⟨ev, eh⟩ := hq
  subst ev
  rw [eh]
  show zPn N none d mX11_heard (5, _, [.inl (if 0 ≤ x.toInt ∧ x.toInt < (cB A:Int) then 1 else 0)], h) _
  by_cases hx : 0 ≤ x.toInt ∧ x.toInt < (cB A : Int)
  case neg =>
    rw [if_neg hx]
    refine pa_if_t (pc' := 27) dX11_heard_5 (by decide) (by decide) ?_
    refine pa_aload_n (pc' := 28) dX11_heard_27 rfl rfl ?_
    refine pa_iconst (v := nI 1) (pc' := 29) dX11_heard_28 (by decide) rfl ?_
    refine pa_callv (pc' := 32) (vs := [.inl (nI 1)]) (rest := []) dX11_heard_29 ml_11_98 (by decide) rfl rfl rfl (fun d' _ => (c_ref s0)) (fun v g hq => ?_)
    obtain ⟨ev, eh⟩ := hq
    subst ev
    show zPn N none d mX11_heard (32, _, [.inl ((-1))], g) _
    refine pa_iret dX11_heard_32 rfl rfl ?_
    unfold heV
    rw [if_neg hx]
  rw [if_pos hx]
  obtain ⟨b, rfl, hb, eb⟩ := nI_ob hx.1 hx.2
  have B := z.bc hi (hA.has hb)
  have hy := hN.1
  refine pa_if_f (pc' := 8) dX11_heard_5 (by decide) (by decide) rfl ?_
  refine pa_aload_n (pc' := 9) dX11_heard_8 rfl rfl ?_
  refine pa_aload_n (pc' := 10) dX11_heard_9 rfl rfl ?_
  refine pa_iload_n (pc' := 11) dX11_heard_10 rfl rfl ?_
  refine pa_aload_n (pc' := 12) dX11_heard_11 rfl rfl ?_
  refine pa_getR (pc' := 15) (n := 16) (r := 86) dX11_heard_12 fl_11_42 s0 (by decide) r6 rfl ?_
  refine pa_getI (pc' := 18) (n := 7) (v := nI s.1) dX11_heard_15 fl_11_180 s86 (by decide) n1 rfl ?_
  refine pa_callv (pc' := 21) (vs := [.inl (nI b), .inl (nI s.1)]) (rest := [.inr (.inr (some 0))]) dX11_heard_18 ml_11_201 (by decide) rfl rfl rfl (fun d' _ => (N_hearerIn B (hi.h0 hA) hb (by omega))) (fun v g hq => ?_)
  obtain ⟨ev, eh⟩ := hq
  subst ev
  show zPn N none d mX11_heard (21, _, [.inl (heA A (s.2.2.2.2.2 b) s.1), .inr (.inr (some 0))], g) _
  have t0 : zsh g 0 = some (11, 16) := zsh_by (eh.1.1.trans h1) (by decide +kernel)
  refine pa_callv (pc' := 24) (vs := [.inl (heA A (s.2.2.2.2.2 b) s.1)]) (rest := []) dX11_heard_21 ml_11_112 (by decide) rfl rfl rfl (fun d' _ => (c_gra t0)) (fun v g9 hq => ?_)
  obtain ⟨ev, eh⟩ := hq
  subst ev
  show zPn N none d mX11_heard (24, _, [.inl ((heA A (s.2.2.2.2.2 b) s.1))], g9) _
  refine pa_goto (pc' := 32) dX11_heard_24 (by decide) ?_
  refine pa_iret dX11_heard_32 rfl rfl ?_
  unfold heV
  rw [if_pos hx, eb]
theorem N_heard12 (z : lZ A c s H J g) (m : lMid kk im t g h) : zPa d mX12_heard [.inr (.inr (some 196)), .inl x] h (fun v _ => v = some (.inl (heV A s x (fun b => heA A (s.2.2.2.2.2 b) s.1)))) := by
  intro N
  have s196 : zsh h 196 = some (12, 39) := zsh_by m.2.1.2.2.2 (by decide +kernel)
  generalize eg : zsI (zsI h 196 0 0) 196 11 0 = h2
  have e2 : ∀ a k, a ≠ 196 → h2.2.1 a k = h.2.1 a k := fun a k ha => by rw [← eg, zsI_no (by omega), zsI_no (by omega)]
  have e3 : ∀ k, k ≠ 0 → k ≠ 11 → h2.2.1 196 k = h.2.1 196 k := fun k w1 w2 => by rw [← eg, zsI_no (by omega), zsI_no (by omega)]
  have h1 : h2.1 = hh_487.1 := by rw [← eg]; exact m.2.1.2.2.2
  have hA : lPA A c h2 := by rw [← eg]; exact (m.pa z.1.1).gd
  have B : cI A ≠ 0 → bgM A s h2 := fun ne => by rw [← eg]; exact (z.bm m ne).gd
  have er : h2.2.2.2.1 = h.2.2.2.1 := by rw [← eg]; rfl
  have q15 : h2.2.2.2.1 196 15 = some 199 := by rw [er]; exact m.r15
  have q17 : h2.2.2.2.1 196 17 = some 201 := by rw [er]; exact m.mw.2.1
  have z196 : zsh h2 196 = some (12, 39) := zsh_by h1 (by decide +kernel)
  have z199 : zsh h2 199 = some (14, 363) := zsh_by h1 (by decide +kernel)
  have z201 : zsh h2 201 = some (14, 76) := zsh_by h1 (by decide +kernel)
  have M : nMo A s 201 0 h2 := (z.lm m).1.1.fr (fun k => e2 _ _ (by decide))
  have hT := z.1.2.1
  have hB := z.1.2.2
  have hI := z.1.1.1
  have hN := z.2.1.1
  have k0 : (0 : Int32).toInt = 0 := by decide
  obtain ⟨b1, b2, b3, b4, b5⟩ := hI.2.2.1
  show zPn N none d mX12_heard (0, [(0, .inr (.inr (some 196))), (1, .inl x)], [], h) _
  refine pa_aload_n (pc' := 1) dX12_heard_0 rfl rfl ?_
  refine pa_callv (pc' := 4) (vs := []) (rest := []) dX12_heard_1 ml_12_167 (by decide) rfl rfl rfl (fun d' _ => (m_good s196)) (fun v h3 hq => ?_)
  obtain ⟨ev, eh⟩ := hq
  subst ev
  show zPn N none d mX12_heard (4, _, [], h3) _
  rw [eg] at eh
  subst eh
  refine pa_aload_n (pc' := 5) dX12_heard_4 rfl rfl ?_
  refine pa_iload_n (pc' := 6) dX12_heard_5 rfl rfl ?_
  refine pa_callv (pc' := 9) (vs := [.inl x]) (rest := []) dX12_heard_6 ml_12_274 (by decide) rfl rfl rfl (fun d' _ => (M_isBox hA q15 h1)) (fun v g9 hq => ?_)
  obtain ⟨ev, eh⟩ := hq
  subst ev
  rw [eh]
  show zPn N none d mX12_heard (9, _, [.inl (if 0 ≤ x.toInt ∧ x.toInt < (cB A:Int) then 1 else 0)], h3) _
  by_cases hx : 0 ≤ x.toInt ∧ x.toInt < (cB A : Int)
  case neg =>
    rw [if_neg hx]
    refine pa_if_t (pc' := 20) dX12_heard_9 (by decide) (by decide) ?_
    refine pa_aload_n (pc' := 21) dX12_heard_20 rfl rfl ?_
    refine pa_iconst (v := nI 1) (pc' := 22) dX12_heard_21 (by decide) rfl ?_
    refine pa_callv (pc' := 25) (vs := [.inl (nI 1)]) (rest := []) dX12_heard_22 ml_12_170 (by decide) rfl rfl rfl (fun d' _ => (m_no z196)) (fun v g hq => ?_)
    obtain ⟨ev, eh⟩ := hq
    subst ev
    show zPn N none d mX12_heard (25, _, [.inl ((-1))], g) _
    refine pa_iret dX12_heard_25 rfl rfl ?_
    unfold heV
    rw [if_neg hx]
  rw [if_pos hx]
  obtain ⟨b, rfl, hb, eb⟩ := nI_ob hx.1 hx.2
  have B := B (hA.has hb)
  refine pa_if_f (pc' := 12) dX12_heard_9 (by decide) (by decide) rfl ?_
  refine pa_aload_n (pc' := 13) dX12_heard_12 rfl rfl ?_
  refine pa_iload_n (pc' := 14) dX12_heard_13 rfl rfl ?_
  refine pa_callv (pc' := 17) (vs := [.inl (nI b)]) (rest := []) dX12_heard_14 ml_12_295 (by decide) rfl rfl rfl (fun d' _ => (M_heardNow B hb)) (fun v g9 hq => ?_)
  obtain ⟨ev, eh⟩ := hq
  subst ev
  rw [eh]
  show zPn N none d mX12_heard (17, _, [.inl (heA A (s.2.2.2.2.2 b) s.1)], h3) _
  refine pa_goto (pc' := 25) dX12_heard_17 (by decide) ?_
  refine pa_iret dX12_heard_25 rfl rfl ?_
  unfold heV
  rw [if_pos hx, eb]
theorem N_note11 (z : lZ A c s H J h) (hi : lInv t h) : zPa d mX11_note [.inr (.inr (some 0)), .inl x, .inl y] h (fun v _ => v = some (.inl (noV A s x y))) := by
  intro N
  have h1 := hi.2.2.2.2.1
  have hA := z.1.1
  have hT := z.1.2.1
  have hB := z.1.2.2
  have hI := hA.1
  have hN := z.2.1.1
  have K := hA.2.2.2.1
  have hc2 : c = 2 ∨ c = 42 := hA.2.1
  obtain ⟨b1, b2, b3, b4, b5⟩ := hI.2.2.1
  have s0 : zsh h 0 = some (11, 16) := zsh_by h1 (by decide +kernel)
  obtain ⟨sc, sc1, sc2, sc4, sc5, scw, scb⟩ := cSh hA.2.1 h1
  obtain ⟨c9, c12, c13, cw, cb⟩ := cRf_of hi.1 hA.2.1
  have S := hi.nw
  obtain ⟨⟨s86, s87, s88, s89, s90, s91⟩, r87, r88, r89, r90, r91⟩ := S.o86
  have r3 := hA.2.2.1
  have r6 := S.2.1
  obtain ⟨n1, n2, n3, n4⟩ := z.2.2.1.1
  have k0 : (0 : Int32).toInt = 0 := by decide
  have hy9 := hN.1
  have no : ¬ ((0 ≤ x.toInt ∧ x.toInt < (cI A : Int)) ∧ 0 ≤ y.toInt ∧ y.toInt < ((A.2.2.1 x.toInt.toNat).length : Int)) → ∀ N, zPn N none d mX11_note (25, [(0, .inr (.inr (some 0))), (1, .inl x), (2, .inl y)], [], h) (fun v _ => v = some (.inl (noV A s x y))) := fun q N => by
    refine pa_aload_n (pc' := 26) dX11_note_25 rfl rfl ?_
    refine pa_iconst (v := nI 1) (pc' := 27) dX11_note_26 (by decide) rfl ?_
    refine pa_callv (pc' := 30) (vs := [.inl (nI 1)]) (rest := []) dX11_note_27 ml_11_98 (by decide) rfl rfl rfl (fun d' _ => (c_ref s0)) (fun v g hq => ?_)
    obtain ⟨ev, eh⟩ := hq
    subst ev
    show zPn N none d mX11_note (30, _, [.inl ((-1))], g) _
    refine pa_iret dX11_note_30 rfl rfl ?_
    unfold noV
    rw [if_neg q]
  show zPn N none d mX11_note (0, [(0, .inr (.inr (some 0))), (1, .inl x), (2, .inl y)], [], h) _
  refine pa_aload_n (pc' := 1) dX11_note_0 rfl rfl ?_
  refine pa_iload_n (pc' := 2) dX11_note_1 rfl rfl ?_
  refine pa_callv (pc' := 5) (vs := [.inl x]) (rest := []) dX11_note_2 ml_11_174 (by decide) rfl rfl rfl (fun d' _ => (N_isI11 hA h1)) (fun v g9 hq => ?_)
  obtain ⟨ev, eh⟩ := hq
  subst ev
  rw [eh]
  show zPn N none d mX11_note (5, _, [.inl (if 0 ≤ x.toInt ∧ x.toInt < (cI A:Int) then 1 else 0)], h) _
  by_cases hx : 0 ≤ x.toInt ∧ x.toInt < (cI A : Int)
  case neg =>
    rw [if_neg hx]
    refine pa_if_t (pc' := 25) dX11_note_5 (by decide) (by decide) ?_
    exact no (fun q => hx q.1) _
  rw [if_pos hx]
  refine pa_if_f (pc' := 8) dX11_note_5 (by decide) (by decide) rfl ?_
  refine pa_iload_n (pc' := 9) dX11_note_8 rfl rfl ?_
  refine pa_if (pc' := 25) (pc2 := 12) dX11_note_9 (by decide) rfl (fun q => ?_) (fun q => ?_)
  · have q := zi_lt q
    rw [k0] at q
    exact no (fun q' => by omega) _
  have q := zi_nlt q
  rw [k0] at q
  obtain ⟨i, rfl, hi2, ei⟩ := nI_ob hx.1 hx.2
  have B := z.bc hi (show cI A ≠ 0 by omega)
  obtain ⟨el, es, oS, lS⟩ := B.2.2.1.2.2.2.2.2 i hi2
  have e0 := B.2.2.1.2.2.2.1.1
  obtain ⟨nt2, nt4, -⟩ := B.2.2.1.2.2.2.2.1
  have r9 := B.2.2.1.2.2.1.2.1
  have r10 := B.2.2.1.2.2.1.2.2
  have r7 := (hi.h0 hA).1
  have r92 := B.2.2.1.2.2.1.1
  have s92 : zsh h 92 = some (7, 6) := zsh_by h1 (by decide +kernel)
  refine pa_iload_n (pc' := 13) dX11_note_12 rfl rfl ?_
  refine pa_aload_n (pc' := 14) dX11_note_13 rfl rfl ?_
  refine pa_getR (pc' := 17) (n := 16) (r := c) dX11_note_14 fl_11_23 s0 (by decide) r3 rfl ?_
  refine pa_getR (pc' := 20) (n := 15) (r := c + 2) dX11_note_17 fl_11_177 sc (by decide) r10 rfl ?_
  refine pa_iload_n (pc' := 21) dX11_note_20 rfl rfl ?_
  refine pa_iald (pc' := 22) dX11_note_21 sc2 rfl (fun _ => ?_)
  rw [nI_clamp (by omega), el]
  rw [ei] at no
  refine pa_icmp (pc' := 31) (pc2 := 25) dX11_note_22 (by decide) rfl (fun u => ?_) (fun u => ?_)
  rotate_left
  · have u := of_decide_eq_false u
    rw [lt_i, nI_toInt (by omega)] at u
    exact no (fun q' => by omega) _
  have u := lt_i.mp (of_decide_eq_true u)
  rw [nI_toInt (by omega)] at u
  clear no
  obtain ⟨k, rfl, hk, ek⟩ := nI_ob (n := (A.2.2.1 i).length) (show 0 ≤ y.toInt by omega) u
  have hfl : fL (nu A 2) (ntA A) s.1 < ntA A := by
    unfold fL
    split
    · omega
    · exact Nat.mod_lt _ (by omega)
  have okr : okN (ntA A) ((A.2.2.1 i).map (rsL (ntA A) (ntA A - fL (nu A 2) (ntA A) s.1))) := rsL_ok (by omega) nt4 _
  have lr : ((A.2.2.1 i).map (rsL (ntA A) (ntA A - fL (nu A 2) (ntA A) s.1))).length = (A.2.2.1 i).length := List.length_map ..
  have si : ∀ d, zPa d mX7_songIn [.inr (.inr (some 92)), .inl (nI i), .inl (nI s.1)] h (fun v g => v = some (.inl (codeS ((A.2.2.1 i).map (rsL (ntA A) (ntA A - fL (nu A 2) (ntA A) s.1))))) ∧ g = h) := fun d N => by
    show zPn N none d mX7_songIn (0, [(0, .inr (.inr (some 92))), (1, .inl (nI i)), (2, .inl (nI s.1))], [], h) _
    refine pa_aload_n (pc' := 1) dX7_songIn_0 rfl rfl ?_
    refine pa_aload_n (pc' := 2) dX7_songIn_1 rfl rfl ?_
    refine pa_getR (pc' := 5) (n := 6) (r := c) dX7_songIn_2 fl_7_28 s92 (by decide) r92 rfl ?_
    refine pa_getR (pc' := 8) (n := 15) (r := c + 1) dX7_songIn_5 fl_7_44 sc (by decide) r9 rfl ?_
    refine pa_iload_n (pc' := 9) dX7_songIn_8 rfl rfl ?_
    refine pa_iald (pc' := 10) dX7_songIn_9 sc1 rfl (fun _ => ?_)
    rw [nI_clamp (by omega), es]
    refine pa_aload_n (pc' := 11) dX7_songIn_10 rfl rfl ?_
    refine pa_getR (pc' := 14) (n := 6) (r := c) dX7_songIn_11 fl_7_28 s92 (by decide) r92 rfl ?_
    refine pa_getR (pc' := 17) (n := 15) (r := c + 2) dX7_songIn_14 fl_7_47 sc (by decide) r10 rfl ?_
    refine pa_iload_n (pc' := 18) dX7_songIn_17 rfl rfl ?_
    refine pa_iald (pc' := 19) dX7_songIn_18 sc2 rfl (fun _ => ?_)
    rw [nI_clamp (by omega), el]
    refine pa_aload_n (pc' := 20) dX7_songIn_19 rfl rfl ?_
    refine pa_getR (pc' := 23) (n := 6) (r := c) dX7_songIn_20 fl_7_28 s92 (by decide) r92 rfl ?_
    refine pa_getI (pc' := 26) (n := 15) (v := nI (ntA A)) dX7_songIn_23 fl_7_37 sc (by decide) e0 rfl ?_
    refine pa_aload_n (pc' := 27) dX7_songIn_26 rfl rfl ?_
    refine pa_iload_n (pc' := 28) dX7_songIn_27 rfl rfl ?_
    refine pa_callv (pc' := 31) (vs := [.inl (nI s.1)]) (rest := [.inl (nI (ntA A)), .inl (nI ((A.2.2.1 i).length)), .inl (codeS (A.2.2.1 i)), .inr (.inr (some 92))]) dX7_songIn_28 ml_7_50 (by decide) rfl rfl rfl (fun d' _ => N_fallIn B.2.2.1 (by omega)) (fun v g9 hq => ?_)
    obtain ⟨ev, eh⟩ := hq
    subst ev
    rw [eh]
    show zPn N none d mX7_songIn (31, _, [.inl (nI (fL (nu A 2) (ntA A) s.1)), .inl (nI (ntA A)), .inl (nI ((A.2.2.1 i).length)), .inl (codeS (A.2.2.1 i)), .inr (.inr (some 92))], h) _
    refine pa_isub (pc' := 32) (v := nI ((ntA A) - (fL (nu A 2) (ntA A) s.1))) dX7_songIn_31 (nI_sub (by omega)) rfl ?_
    refine pa_callv (pc' := 35) (vs := [.inl (codeS (A.2.2.1 i)), .inl (nI ((A.2.2.1 i).length)), .inl (nI ((ntA A) - (fL (nu A 2) (ntA A) s.1)))]) (rest := []) dX7_songIn_32 ml_7_54 (by decide) rfl rfl rfl (fun d' _ => N_raised B.2.2.1 oS rfl lS (by omega)) (fun v g9 hq => ?_)
    obtain ⟨ev, eh⟩ := hq
    subst ev
    rw [eh]
    show zPn N none d mX7_songIn (35, _, [.inl (codeS ((A.2.2.1 i).map (rsL (ntA A) (ntA A - fL (nu A 2) (ntA A) s.1))))], h) _
    refine pa_iret dX7_songIn_35 rfl rfl ?_
    exact ⟨rfl, rfl⟩
  refine pa_aload_n (pc' := 32) dX11_note_31 rfl rfl ?_
  refine pa_aload_n (pc' := 33) dX11_note_32 rfl rfl ?_
  refine pa_getR (pc' := 36) (n := 16) (r := 92) dX11_note_33 fl_11_51 s0 (by decide) r7 rfl ?_
  refine pa_iload_n (pc' := 37) dX11_note_36 rfl rfl ?_
  refine pa_aload_n (pc' := 38) dX11_note_37 rfl rfl ?_
  refine pa_getR (pc' := 41) (n := 16) (r := 86) dX11_note_38 fl_11_42 s0 (by decide) r6 rfl ?_
  refine pa_getI (pc' := 44) (n := 7) (v := nI s.1) dX11_note_41 fl_11_180 s86 (by decide) n1 rfl ?_
  refine pa_callv (pc' := 47) (vs := [.inl (nI i), .inl (nI s.1)]) (rest := [.inr (.inr (some 0))]) dX11_note_44 ml_11_183 (by decide) rfl rfl rfl (fun d' _ => (si d')) (fun v g9 hq => ?_)
  obtain ⟨ev, eh⟩ := hq
  subst ev
  rw [eh]
  show zPn N none d mX11_note (47, _, [.inl (codeS ((A.2.2.1 i).map (rsL (ntA A) (ntA A - fL (nu A 2) (ntA A) s.1)))), .inr (.inr (some 0))], h) _
  refine pa_aload_n (pc' := 48) dX11_note_47 rfl rfl ?_
  refine pa_getR (pc' := 51) (n := 16) (r := c) dX11_note_48 fl_11_23 s0 (by decide) r3 rfl ?_
  refine pa_getR (pc' := 54) (n := 15) (r := c + 2) dX11_note_51 fl_11_177 sc (by decide) r10 rfl ?_
  refine pa_iload_n (pc' := 55) dX11_note_54 rfl rfl ?_
  refine pa_iald (pc' := 56) dX11_note_55 sc2 rfl (fun _ => ?_)
  rw [nI_clamp (by omega), el]
  refine pa_iload_n (pc' := 57) dX11_note_56 rfl rfl ?_
  refine pa_calls (pc' := 60) (kd := 1) (vs := [.inl (codeS ((A.2.2.1 i).map (rsL (ntA A) (ntA A - fL (nu A 2) (ntA A) s.1)))), .inl (nI ((A.2.2.1 i).length)), .inl (nI k)]) (rest := [.inr (.inr (some 0))]) dX11_note_57 ml_11_187 (.inl rfl) rfl rfl rfl (fun d' _ => (N_noteAt (okr.nt nt4) lr lS hk)) (fun v g9 hq => ?_)
  obtain ⟨ev, eh⟩ := hq
  subst ev
  rw [eh]
  show zPn N none d mX11_note (60, _, [.inl (nI (dg (((A.2.2.1 i).map (rsL (ntA A) (ntA A - fL (nu A 2) (ntA A) s.1))).getD k 0))), .inr (.inr (some 0))], h) _
  refine pa_callv (pc' := 63) (vs := [.inl (nI (dg (((A.2.2.1 i).map (rsL (ntA A) (ntA A - fL (nu A 2) (ntA A) s.1))).getD k 0)))]) (rest := []) dX11_note_60 ml_11_112 (by decide) rfl rfl rfl (fun d' _ => (c_gra s0)) (fun v g hq => ?_)
  obtain ⟨ev, eh⟩ := hq
  subst ev
  show zPn N none d mX11_note (63, _, [.inl (nI ((dg (((A.2.2.1 i).map (rsL (ntA A) (ntA A - fL (nu A 2) (ntA A) s.1))).getD k 0))))], g) _
  refine pa_iret dX11_note_63 rfl rfl ?_
  unfold noV
  rw [if_pos ⟨hx, by rw [ei]; omega⟩, ei, ek, rsL_getD hk, dg_rsL (by omega) nt4, Nat.add_sub_assoc (by omega)]
theorem N_note12 (z : lZ A c s H J g) (m : lMid kk im t g h) : zPa d mX12_note [.inr (.inr (some 196)), .inl x, .inl y] h (fun v _ => v = some (.inl (noV A s x y))) := by
  intro N
  have s196 : zsh h 196 = some (12, 39) := zsh_by m.2.1.2.2.2 (by decide +kernel)
  generalize eg : zsI (zsI h 196 0 0) 196 11 0 = h2
  have e2 : ∀ a k, a ≠ 196 → h2.2.1 a k = h.2.1 a k := fun a k ha => by rw [← eg, zsI_no (by omega), zsI_no (by omega)]
  have e3 : ∀ k, k ≠ 0 → k ≠ 11 → h2.2.1 196 k = h.2.1 196 k := fun k w1 w2 => by rw [← eg, zsI_no (by omega), zsI_no (by omega)]
  have h1 : h2.1 = hh_487.1 := by rw [← eg]; exact m.2.1.2.2.2
  have hA : lPA A c h2 := by rw [← eg]; exact (m.pa z.1.1).gd
  have B : cI A ≠ 0 → bgM A s h2 := fun ne => by rw [← eg]; exact (z.bm m ne).gd
  have er : h2.2.2.2.1 = h.2.2.2.1 := by rw [← eg]; rfl
  have q15 : h2.2.2.2.1 196 15 = some 199 := by rw [er]; exact m.r15
  have q17 : h2.2.2.2.1 196 17 = some 201 := by rw [er]; exact m.mw.2.1
  have z196 : zsh h2 196 = some (12, 39) := zsh_by h1 (by decide +kernel)
  have z199 : zsh h2 199 = some (14, 363) := zsh_by h1 (by decide +kernel)
  have z201 : zsh h2 201 = some (14, 76) := zsh_by h1 (by decide +kernel)
  have M : nMo A s 201 0 h2 := (z.lm m).1.1.fr (fun k => e2 _ _ (by decide))
  have hT := z.1.2.1
  have hB := z.1.2.2
  have hI := z.1.1.1
  have hN := z.2.1.1
  have k0 : (0 : Int32).toInt = 0 := by decide
  obtain ⟨b1, b2, b3, b4, b5⟩ := hI.2.2.1
  have hy9 := hN.1
  show zPn N none d mX12_note (0, [(0, .inr (.inr (some 196))), (1, .inl x), (2, .inl y)], [], h) _
  refine pa_aload_n (pc' := 1) dX12_note_0 rfl rfl ?_
  refine pa_callv (pc' := 4) (vs := []) (rest := []) dX12_note_1 ml_12_167 (by decide) rfl rfl rfl (fun d' _ => (m_good s196)) (fun v h3 hq => ?_)
  obtain ⟨ev, eh⟩ := hq
  subst ev
  show zPn N none d mX12_note (4, _, [], h3) _
  rw [eg] at eh
  subst eh
  refine pa_aload_n (pc' := 5) dX12_note_4 rfl rfl ?_
  refine pa_iload_n (pc' := 6) dX12_note_5 rfl rfl ?_
  refine pa_callv (pc' := 9) (vs := [.inl x]) (rest := []) dX12_note_6 ml_12_277 (by decide) rfl rfl rfl (fun d' _ => (N_isI12 hA q15 h1)) (fun v g9 hq => ?_)
  obtain ⟨ev, eh⟩ := hq
  subst ev
  rw [eh]
  show zPn N none d mX12_note (9, _, [.inl (if 0 ≤ x.toInt ∧ x.toInt < (cI A:Int) then 1 else 0)], h3) _
  by_cases hx : 0 ≤ x.toInt ∧ x.toInt < (cI A : Int)
  case neg =>
    rw [if_neg hx]
    refine pa_if_t (pc' := 42) dX12_note_9 (by decide) (by decide) ?_
    refine pa_aload_n (pc' := 43) dX12_note_42 rfl rfl ?_
    refine pa_iconst (v := nI 1) (pc' := 44) dX12_note_43 (by decide) rfl ?_
    refine pa_callv (pc' := 47) (vs := [.inl (nI 1)]) (rest := []) dX12_note_44 ml_12_170 (by decide) rfl rfl rfl (fun d' _ => (m_no z196)) (fun v g hq => ?_)
    obtain ⟨ev, eh⟩ := hq
    subst ev
    show zPn N none d mX12_note (47, _, [.inl ((-1))], g) _
    refine pa_iret dX12_note_47 rfl rfl ?_
    unfold noV
    rw [if_neg (fun q => hx q.1)]
  rw [if_pos hx]
  obtain ⟨i, rfl, hi2, ei⟩ := nI_ob hx.1 hx.2
  have B := B (show cI A ≠ 0 by omega)
  obtain ⟨-, lS, l2, -⟩ := okN_of hI hi2
  have ny : h3.2.1 201 0 = nI s.1 := M.1
  refine pa_if_f (pc' := 12) dX12_note_9 (by decide) (by decide) rfl ?_
  refine pa_iload_n (pc' := 13) dX12_note_12 rfl rfl ?_
  refine pa_iconst (v := 0) (pc' := 14) dX12_note_13 (by decide) rfl ?_
  refine pa_aload_n (pc' := 15) dX12_note_14 rfl rfl ?_
  refine pa_iload_n (pc' := 16) dX12_note_15 rfl rfl ?_
  refine pa_callv (pc' := 19) (vs := [.inl (nI i)]) (rest := [.inl 0, .inl y]) dX12_note_16 ml_12_265 (by decide) rfl rfl rfl (fun d' _ => (M_songLong B.2.2.1 hi2)) (fun v g9 hq => ?_)
  obtain ⟨ev, eh⟩ := hq
  subst ev
  rw [eh]
  show zPn N none d mX12_note (19, _, [.inl (nI ((A.2.2.1 i).length)), .inl 0, .inl y], h3) _
  refine pa_iconst (v := nI 1) (pc' := 20) dX12_note_19 (by decide) rfl ?_
  refine pa_isub (pc' := 21) (v := nI (((A.2.2.1 i).length) - 1)) dX12_note_20 (nI_sub (by omega)) rfl ?_
  refine pa_calls (pc' := 24) (kd := 1) (vs := [.inl y, .inl 0, .inl (nI (((A.2.2.1 i).length) - 1))]) (rest := []) dX12_note_21 ml_12_149 (.inl rfl) rfl rfl rfl (fun d' _ => in_v) (fun v g9 hq => ?_)
  obtain ⟨ev, eh⟩ := hq
  subst ev
  rw [eh]
  show zPn N none d mX12_note (24, _, [.inl (if ((0 : Int32)).toInt ≤ (y).toInt ∧ (y).toInt ≤ ((nI (((A.2.2.1 i).length) - 1))).toInt then 1 else 0)], h3) _
  rw [k0, nI_toInt (n := (A.2.2.1 i).length - 1) (by omega)]
  by_cases hy : 0 ≤ y.toInt ∧ y.toInt ≤ (((A.2.2.1 i).length - 1 : Nat) : Int)
  case neg =>
    rw [if_neg hy]
    refine pa_if_t (pc' := 42) dX12_note_24 (by decide) (by decide) ?_
    refine pa_aload_n (pc' := 43) dX12_note_42 rfl rfl ?_
    refine pa_iconst (v := nI 1) (pc' := 44) dX12_note_43 (by decide) rfl ?_
    refine pa_callv (pc' := 47) (vs := [.inl (nI 1)]) (rest := []) dX12_note_44 ml_12_170 (by decide) rfl rfl rfl (fun d' _ => (m_no z196)) (fun v g hq => ?_)
    obtain ⟨ev, eh⟩ := hq
    subst ev
    show zPn N none d mX12_note (47, _, [.inl ((-1))], g) _
    refine pa_iret dX12_note_47 rfl rfl ?_
    unfold noV
    rw [ei, if_neg (fun q => hy (by omega))]
  rw [if_pos hy]
  obtain ⟨k, rfl, hk, ek⟩ := nI_ob (n := (A.2.2.1 i).length) hy.1 (by omega)
  refine pa_if_f (pc' := 27) dX12_note_24 (by decide) (by decide) rfl ?_
  refine pa_aload_n (pc' := 28) dX12_note_27 rfl rfl ?_
  refine pa_iload_n (pc' := 29) dX12_note_28 rfl rfl ?_
  refine pa_iload_n (pc' := 30) dX12_note_29 rfl rfl ?_
  refine pa_aload_n (pc' := 31) dX12_note_30 rfl rfl ?_
  refine pa_getR (pc' := 34) (n := 39) (r := 201) dX12_note_31 fl_12_26 z196 (by decide) q17 rfl ?_
  refine pa_iconst (v := nI 0) (pc' := 35) dX12_note_34 (by decide) rfl ?_
  refine pa_iald (pc' := 36) dX12_note_35 z201 rfl (fun _ => ?_)
  rw [nI_clamp (by omega), ny]
  refine pa_callv (pc' := 39) (vs := [.inl (nI i), .inl (nI k), .inl (nI s.1)]) (rest := []) dX12_note_36 ml_12_280 (by decide) rfl rfl rfl (fun d' _ => (M_noteIn B.2.2.1 hi2 hk (by omega))) (fun v g9 hq => ?_)
  obtain ⟨ev, eh⟩ := hq
  subst ev
  rw [eh]
  show zPn N none d mX12_note (39, _, [.inl (nI ((dg ((A.2.2.1 i).getD k 0) + ntA A - fL (nu A 2) (ntA A) s.1) % ntA A))], h3) _
  refine pa_goto (pc' := 47) dX12_note_39 (by decide) ?_
  refine pa_iret dX12_note_47 rfl rfl ?_
  unfold noV
  rw [if_pos ⟨hx, by rw [ei]; omega⟩, ei, ek]
end AN2
/-! answers: near, asNear, heardIn, sets -/
def nrS (A : pA) (w : List Int32) (nt f i : Nat) (s : Nat × Nat) : Nat × Nat := if (A.2.2.1 i).length = w.length then (if unM (A.2.2.1 i) w nt f w.length < s.1 then (unM (A.2.2.1 i) w nt f w.length, 1) else if unM (A.2.2.1 i) w nt f w.length = s.1 then (s.1, s.2 + 1) else s) else s
def nrF (A : pA) (w : List Int32) (nt f : Nat) : Nat → Nat × Nat
  | 0 => (7, 0)
  | i + 1 => nrS A w nt f i (nrF A w nt f i)
theorem nrF_b (A : pA) (w : List Int32) (nt f : Nat) : ∀ i, (nrF A w nt f i).1 ≤ 7 ∧ (nrF A w nt f i).2 ≤ i
  | 0 => ⟨Nat.le_refl _, Nat.le_refl _⟩
  | i + 1 => by
    obtain ⟨h1, h2⟩ := nrF_b A w nt f i
    show (nrS A w nt f i (nrF A w nt f i)).1 ≤ 7 ∧ (nrS A w nt f i (nrF A w nt f i)).2 ≤ i + 1
    unfold nrS
    split
    · split
      · exact ⟨by dsimp only; omega, by dsimp only; omega⟩
      · split
        · exact ⟨h1, by dsimp only; omega⟩
        · exact ⟨h1, by omega⟩
    · exact ⟨h1, by omega⟩
theorem near_eq {A : pA} {w : List Int32} {nt D y : Nat} (b1 : 2 ≤ nt) (b2 : nt ≤ 4) (hS : ∀ i, i < cI A → okN nt (A.2.2.1 i)) (ow : okN nt w) (hl : w.length ≤ 6) {i0 : Nat} (h0 : i0 < cI A) (h1 : (A.2.2.1 i0).length = w.length) : nrF A w nt (fL D nt y) (cI A) = ((hFo A (w.map (rsL nt (fL D nt y))) (cI A)).1, (hFo A (w.map (rsL nt (fL D nt y))) (cI A)).2.1) := by
  have hfl : fL D nt y < nt := by
    unfold fL
    split
    · omega
    · exact Nat.mod_lt _ (by omega)
  have lm : (w.map (rsL nt (fL D nt y))).length = w.length := List.length_map ..
  have key : ∀ i, i ≤ cI A → ((∀ j, j < i → (A.2.2.1 j).length ≠ w.length) ∧ nrF A w nt (fL D nt y) i = (7, 0) ∧ (hFo A (w.map (rsL nt (fL D nt y))) i).1 = w.length + 1) ∨ (nrF A w nt (fL D nt y) i = ((hFo A (w.map (rsL nt (fL D nt y))) i).1, (hFo A (w.map (rsL nt (fL D nt y))) i).2.1) ∧ (hFo A (w.map (rsL nt (fL D nt y))) i).1 ≤ w.length) := by
    intro i
    induction i with
    | zero => intro _; exact .inl ⟨fun j hj => absurd hj (Nat.not_lt_zero j), rfl, by show (w.map (rsL nt (fL D nt y))).length + 1 = _; rw [lm]⟩
    | succ i ih =>
      intro hi
      have ih := ih (by omega)
      show ((∀ j, j < i + 1 → (A.2.2.1 j).length ≠ w.length) ∧ nrS A w nt (fL D nt y) i (nrF A w nt (fL D nt y) i) = (7, 0) ∧ (hSt A (w.map (rsL nt (fL D nt y))) i (hFo A (w.map (rsL nt (fL D nt y))) i)).1 = w.length + 1) ∨ (nrS A w nt (fL D nt y) i (nrF A w nt (fL D nt y) i) = ((hSt A (w.map (rsL nt (fL D nt y))) i (hFo A (w.map (rsL nt (fL D nt y))) i)).1, (hSt A (w.map (rsL nt (fL D nt y))) i (hFo A (w.map (rsL nt (fL D nt y))) i)).2.1) ∧ (hSt A (w.map (rsL nt (fL D nt y))) i (hFo A (w.map (rsL nt (fL D nt y))) i)).1 ≤ w.length)
      unfold hSt nrS
      rw [lm]
      by_cases z : (A.2.2.1 i).length = w.length
      · rw [if_pos z, if_pos z]
        have oS := hS i (by omega)
        have eu := unM_df b1 b2 hfl oS ow z w.length (Nat.le_refl _)
        rw [List.take_of_length_le (by omega), List.take_of_length_le (by omega)] at eu
        rw [eu]
        have dl := df_le (w.map (rsL nt (fL D nt y))) (A.2.2.1 i)
        rw [lm] at dl
        generalize df (w.map (rsL nt (fL D nt y))) (A.2.2.1 i) = u at dl ⊢
        generalize hFo A (w.map (rsL nt (fL D nt y))) i = s at ih ⊢
        generalize nrF A w nt (fL D nt y) i = t at ih ⊢
        obtain ⟨F, C, B⟩ := s
        obtain ⟨R, Q⟩ := t
        dsimp only at ih ⊢
        rcases ih with ⟨i1, i2, i3⟩ | ⟨i2, i3⟩
        · cases i2
          rw [if_pos (by omega), if_pos (by omega)]
          exact .inr ⟨rfl, dl⟩
        · cases i2
          by_cases z1 : u < F
          · rw [if_pos z1, if_pos z1]
            exact .inr ⟨rfl, dl⟩
          · rw [if_neg z1, if_neg z1]
            by_cases z2 : u = F
            · rw [if_pos z2, if_pos z2]
              exact .inr ⟨rfl, i3⟩
            · rw [if_neg z2, if_neg z2]
              exact .inr ⟨rfl, i3⟩
      · rw [if_neg z, if_neg z]
        rcases ih with ⟨i1, i2, i3⟩ | ih
        · refine .inl ⟨fun j hj => ?_, i2, i3⟩
          by_cases y : j = i
          · rw [y]; exact z
          · exact i1 j (by omega)
        · exact .inr ih
  rcases key (cI A) (Nat.le_refl _) with ⟨q, -⟩ | ⟨q, -⟩
  · exact absurd h1 (q i0 h0)
  · exact q
def hiV (A : pA) (s : nS) (x y : Int32) : Int32 := if (0 ≤ x.toInt ∧ x.toInt < (cB A : Int)) ∧ 0 ≤ y.toInt ∧ y.toInt ≤ 99 then heA A (s.2.2.2.2.2 x.toInt.toNat) (s.1 + y.toInt.toNat) else -1
def seV (A : pA) (s : nS) (x k y : Int32) : Int32 := if ((0 ≤ x.toInt ∧ x.toInt < (cH A : Int)) ∧ 0 ≤ k.toInt ∧ k.toInt < (cW A : Int)) ∧ 0 ≤ y.toInt ∧ y.toInt ≤ 9999 then (if clB s.2.1 k.toInt.toNat = true then -2 else nI (gLv (kdA A x.toInt.toNat) (opA A k.toInt.toNat) y.toInt.toNat)) else -1
section AN3
variable {t d N c w b : Nat} {h g : zH} {A : pA} {s : nS} {H J : List nS} {x y k : Int32} {kk : Bool} {im : Int32}
theorem N_inQ {z q : Int32} : zPa d mX11_isWithin [.inl z, .inl q] h (fun v g => v = some (.inl (if 0 ≤ z.toInt ∧ z.toInt ≤ q.toInt then 1 else 0)) ∧ g = h) := by
  intro N
  have k0 : (0 : Int32).toInt = 0 := by decide
  have e13 : ¬ (0 ≤ z.toInt ∧ z.toInt ≤ q.toInt) → ∀ N, zPn N none d mX11_isWithin (13, [(0, .inl z), (1, .inl q)], [], h) (fun v g => v = some (.inl (if 0 ≤ z.toInt ∧ z.toInt ≤ q.toInt then 1 else 0)) ∧ g = h) := fun w N => by
    refine pa_iconst (v := 0) (pc' := 14) dX11_isWithin_13 (by decide) rfl ?_
    refine pa_iret dX11_isWithin_14 rfl rfl ?_
    exact ⟨by rw [if_neg w], rfl⟩
  show zPn N none d mX11_isWithin (0, [(0, .inl z), (1, .inl q)], [], h) _
  refine pa_iload_n (pc' := 1) dX11_isWithin_0 rfl rfl ?_
  refine pa_if (pc' := 13) (pc2 := 4) dX11_isWithin_1 (by decide) rfl (fun w => ?_) (fun w => ?_)
  · have w := zi_lt w
    rw [k0] at w
    exact e13 (by omega) _
  · have w := zi_nlt w
    rw [k0] at w
    refine pa_iload_n (pc' := 5) dX11_isWithin_4 rfl rfl ?_
    refine pa_iload_n (pc' := 6) dX11_isWithin_5 rfl rfl ?_
    refine pa_icmp (pc' := 13) (pc2 := 9) dX11_isWithin_6 (by decide) rfl (fun u => ?_) (fun u => ?_)
    · have u := lt_i.mp (of_decide_eq_true u)
      exact e13 (by omega) _
    · have u := of_decide_eq_false u
      rw [lt_i] at u
      refine pa_iconst (v := 1) (pc' := 10) dX11_isWithin_9 (by decide) rfl ?_
      refine pa_goto (pc' := 14) dX11_isWithin_10 (by decide) ?_
      refine pa_iret dX11_isWithin_14 rfl rfl ?_
      exact ⟨by rw [if_pos (by omega)], rfl⟩
theorem M_cpr (B : bgM A s h) (hb : b < cB A) : h.2.1 199 (127 + 4 * b + 1) = nI (nu A (128 + 4 * b)) ∧ ∀ k, k < lB A b → (if nI k = -1 then 0 else h.2.1 201 (28 + 6 * b + k)) = nI (dg ((s.2.2.2.2.2 b).getD k 0)) := by
  obtain ⟨hI, hT, hB, hN⟩ := B.1
  obtain ⟨l6, l2⟩ := lb_ok hI hB hT hb
  refine ⟨?_, fun k hk => ?_⟩
  · rw [B.2.2.2.2.2 b hb 1 (by decide), (num_box hI hB hT hb).2.2.2.2 1 (by decide), show 127 + 4 * b + 1 = 128 + 4 * b by omega]
  · rw [if_neg (fun z => by have := congrArg Int32.toInt z; rw [nI_toInt (by omega), show (-1 : Int32).toInt = -1 by decide] at this; omega)]
    have := (B.2.2.2.1.2.2.2 b hb).2.2 k (by rw [(hN.2.2 b hb).2.1]; exact hk)
    rw [Nat.zero_add] at this
    exact this
theorem M_nearOf (B : bgM A s h) (hb : b < cB A) {m : Int32} (hm : m = 0 ∨ m = 1) : zPa d mX12_nearOf [.inr (.inr (some 196)), .inl (nI b), .inl m] h (fun v g => v = some (.inl (if m = 0 then nI (hfA A (s.2.2.2.2.2 b) s.1).1 else nI (hfA A (s.2.2.2.2.2 b) s.1).2.1)) ∧ g = h) := by
  intro N
  obtain ⟨hI, hT, hB, hN⟩ := B.1
  obtain ⟨b1, b2, b3, b4, b5⟩ := hI.2.2.1
  obtain ⟨l6, l2⟩ := lb_ok hI hB hT hb
  obtain ⟨ok, ol, -⟩ := hN.2.2 b hb
  obtain ⟨-, bto, -⟩ := num_box hI hB hT hb
  have hy := hN.1
  have K := B.2.2.1
  obtain ⟨n2, n4, -⟩ := K.2.2.2.1
  obtain ⟨e1, hc⟩ := M_cpr B hb
  have s196 := sh_196' K.1
  have s199 : zsh h 199 = some (14, 363) := zsh_by K.1 (by decide +kernel)
  have s201 : zsh h 201 = some (14, 76) := zsh_by K.1 (by decide +kernel)
  obtain ⟨r15, r17⟩ := K.2.1
  have q4 := K.2.2.1.2.2.2
  have ny : h.2.1 201 0 = nI s.1 := B.2.2.2.1.1
  have eq := near_eq (D := nu A 2) (y := s.1) n2 n4 (fun i hi => (K.2.2.2.2 i hi).2.2.1) ok (by omega) bto (i0 := nu A (128 + 4 * b)) (by rw [ol]; rfl)
  generalize ef : nrF A (s.2.2.2.2.2 b) (ntA A) (fL (nu A 2) (ntA A) s.1) = f at eq
  have fb : ∀ i, (f i).1 ≤ 7 ∧ (f i).2 ≤ i := fun i => by rw [← ef]; exact nrF_b _ _ _ _ i
  have fs : ∀ i, f (i + 1) = nrS A (s.2.2.2.2.2 b) (ntA A) (fL (nu A 2) (ntA A) s.1) i (f i) := fun i => by rw [← ef]; rfl
  have lp : ∀ (N i : Nat) (ls : zL), i ≤ cI A → zget ls 0 = some (.inr (.inr (some 196))) → zget ls 1 = some (.inl (nI b)) → zget ls 2 = some (.inl m) → zget ls 3 = some (.inl (nI (f i).1)) → zget ls 4 = some (.inl (nI (f i).2)) → zget ls 5 = some (.inl (nI i)) → zPn N none d mX12_nearOf (9, ls, [], h) (fun v g => v = some (.inl (if m = 0 then nI (hfA A (s.2.2.2.2.2 b) s.1).1 else nI (hfA A (s.2.2.2.2.2 b) s.1).2.1)) ∧ g = h) := by
    intro N
    induction N with
    | zero => intros; exact zPn.zero
    | succ N ih =>
      intro i ls hi hl0 hl1 hl2 hl3 hl4 hl5
      obtain ⟨f7, fi⟩ := fb i
      refine pa_iload (pc' := 11) dX12_nearOf_9 hl5 rfl ?_
      refine pa_aload_n (pc' := 12) dX12_nearOf_11 hl0 rfl ?_
      refine pa_getR (pc' := 15) (n := 39) (r := 199) dX12_nearOf_12 fl_12_20 s196 (by decide) r15 rfl ?_
      refine pa_iconst (v := nI 4) (pc' := 16) dX12_nearOf_15 (by decide) rfl ?_
      refine pa_iald (pc' := 17) dX12_nearOf_16 s199 rfl (fun _ => ?_)
      rw [nI_clamp (by omega), q4]
      refine pa_icmp (pc' := 100) (pc2 := 20) dX12_nearOf_17 (by decide) rfl (fun z => ?_) (fun z => ?_)
      · have z := zi_nlt (zk_ge_lt z)
        rw [nI_toInt (by omega), nI_toInt (by omega)] at z
        have ei : i = cI A := by omega
        subst ei
        rw [eq] at hl3 hl4
        refine pa_iload_n (pc' := 101) dX12_nearOf_100 hl2 rfl ?_
        rcases hm with rfl | rfl
        · refine pa_if_t (pc' := 109) dX12_nearOf_101 (by decide) (by decide) ?_
          refine pa_iload_n (pc' := 110) dX12_nearOf_109 hl3 rfl ?_
          refine pa_iret dX12_nearOf_110 rfl rfl ?_
          exact ⟨rfl, rfl⟩
        · refine pa_if_f (pc' := 104) dX12_nearOf_101 (by decide) (by decide) rfl ?_
          refine pa_iload (pc' := 106) dX12_nearOf_104 hl4 rfl ?_
          refine pa_goto (pc' := 110) dX12_nearOf_106 (by decide) ?_
          refine pa_iret dX12_nearOf_110 rfl rfl ?_
          exact ⟨rfl, rfl⟩
      · have z := zi_lt (zk_ge_lt z)
        rw [nI_toInt (by omega), nI_toInt (by omega)] at z
        have nx : ∀ s', f (i + 1) = s' → ∀ ls', zget ls' 0 = some (.inr (.inr (some 196))) → zget ls' 1 = some (.inl (nI b)) → zget ls' 2 = some (.inl m) → zget ls' 3 = some (.inl (nI s'.1)) → zget ls' 4 = some (.inl (nI s'.2)) → zget ls' 5 = some (.inl (nI i)) → zPn (N + 1) none d mX12_nearOf (94, ls', [], h) (fun v g => v = some (.inl (if m = 0 then nI (hfA A (s.2.2.2.2.2 b) s.1).1 else nI (hfA A (s.2.2.2.2.2 b) s.1).2.1)) ∧ g = h) := fun s' es ls' l0 l1 l2 l3 l4 l5 => by
          refine pa_iinc (pc' := 97) (v := nI (i + 1)) dX12_nearOf_94 l5 (by decide) (nI_add i 1) rfl rfl ?_
          refine pa_gotos (pc' := 9) dX12_nearOf_97 (by decide) ?_
          subst es
          exact ih (i + 1) _ (by omega) (zget_s1 l0 (by decide) (by simp [zcat])) (zget_s1 l1 (by decide) (by simp [zcat])) (zget_s1 l2 (by decide) (by simp [zcat])) (zget_s1 l3 (by decide) (by simp [zcat])) (zget_s1 l4 (by decide) (by simp [zcat])) zget_s1e
        refine pa_aload_n (pc' := 21) dX12_nearOf_20 hl0 rfl ?_
        refine pa_iload (pc' := 23) dX12_nearOf_21 hl5 rfl ?_
        refine pa_callv (pc' := 26) (vs := [.inl (nI i)]) (rest := []) dX12_nearOf_23 ml_12_265 (by decide) rfl rfl rfl (fun d' _ => M_songLong K (show i < cI A by omega)) (fun v g9 hq => ?_)
        obtain ⟨ev, eh⟩ := hq
        subst ev
        rw [eh]
        show zPn (N + 1) none d mX12_nearOf (26, _, [.inl (nI ((A.2.2.1 i).length))], h) _
        refine pa_aload_n (pc' := 27) dX12_nearOf_26 hl0 rfl ?_
        refine pa_iload_n (pc' := 28) dX12_nearOf_27 hl1 rfl ?_
        refine pa_callv (pc' := 31) (vs := [.inl (nI b)]) (rest := [.inl (nI ((A.2.2.1 i).length))]) dX12_nearOf_28 ml_12_284 (by decide) rfl rfl rfl (fun d' _ => M_boxLong K (by omega) e1 bto) (fun v g9 hq => ?_)
        obtain ⟨ev, eh⟩ := hq
        subst ev
        rw [eh]
        show zPn (N + 1) none d mX12_nearOf (31, _, [.inl (nI (lB A b)), .inl (nI ((A.2.2.1 i).length))], h) _
        by_cases z1 : (A.2.2.1 i).length = lB A b
        · have ul := unM_le (s := A.2.2.1 i) (w := s.2.2.2.2.2 b) (nt := ntA A) (f := fL (nu A 2) (ntA A) s.1) (lB A b)
          refine pa_icmp_t (pc' := 37) dX12_nearOf_31 (decide_eq_true (by rw [z1])) (by decide) ?_
          refine pa_aload_n (pc' := 38) dX12_nearOf_37 hl0 rfl ?_
          refine pa_iload_n (pc' := 39) dX12_nearOf_38 hl1 rfl ?_
          refine pa_iload (pc' := 41) dX12_nearOf_39 hl5 rfl ?_
          refine pa_aload_n (pc' := 42) dX12_nearOf_41 hl0 rfl ?_
          refine pa_getR (pc' := 45) (n := 39) (r := 201) dX12_nearOf_42 fl_12_26 s196 (by decide) r17 rfl ?_
          refine pa_iconst (v := nI 0) (pc' := 46) dX12_nearOf_45 (by decide) rfl ?_
          refine pa_iald (pc' := 47) dX12_nearOf_46 s201 rfl (fun _ => ?_)
          rw [nI_clamp (by omega), ny]
          refine pa_iconst (v := (-1)) (pc' := 48) dX12_nearOf_47 (by decide) rfl ?_
          refine pa_iconst (v := 0) (pc' := 49) dX12_nearOf_48 (by decide) rfl ?_
          refine pa_callv (pc' := 52) (vs := [.inl (nI b), .inl (nI i), .inl (nI s.1), .inl ((-1)), .inl 0]) (rest := []) dX12_nearOf_49 ml_12_287 (by decide) rfl rfl rfl (fun d' _ => M_unlike K (by omega) e1 bto (show i < cI A by omega) rfl z1 (by omega) hc ol ok) (fun v g9 hq => ?_)
          obtain ⟨ev, eh⟩ := hq
          subst ev
          rw [eh]
          show zPn (N + 1) none d mX12_nearOf (52, _, [.inl (nI (unM (A.2.2.1 i) (s.2.2.2.2.2 b) (ntA A) (fL (nu A 2) (ntA A) s.1) (lB A b)))], h) _
          refine pa_istore (pc' := 54) dX12_nearOf_52 (by decide) rfl rfl ?_
          refine pa_iload (pc' := 56) dX12_nearOf_54 zget_s1e rfl ?_
          refine pa_iload_n (pc' := 57) dX12_nearOf_56 (zget_s1 hl3 (by decide) (by simp [zcat])) rfl ?_
          have es : f (i + 1) = if unM (A.2.2.1 i) (s.2.2.2.2.2 b) (ntA A) (fL (nu A 2) (ntA A) s.1) (lB A b) < (f i).1 then (unM (A.2.2.1 i) (s.2.2.2.2.2 b) (ntA A) (fL (nu A 2) (ntA A) s.1) (lB A b), 1) else if unM (A.2.2.1 i) (s.2.2.2.2.2 b) (ntA A) (fL (nu A 2) (ntA A) s.1) (lB A b) = (f i).1 then ((f i).1, (f i).2 + 1) else f i := by
            rw [fs]
            unfold nrS
            rw [ol, if_pos z1]
          generalize unM (A.2.2.1 i) (s.2.2.2.2.2 b) (ntA A) (fL (nu A 2) (ntA A) s.1) (lB A b) = u at ul es ⊢
          by_cases z2 : u < (f i).1
          · rw [if_pos z2] at es
            refine pa_icmp_f (pc' := 60) dX12_nearOf_57 (zk_lt_ge (b := true) (zj_lt (by rw [nI_toInt (by omega), nI_toInt (by omega)]; omega))) (by decide) rfl ?_
            refine pa_iconst (v := nI 1) (pc' := 61) dX12_nearOf_60 (by decide) rfl ?_
            refine pa_goto (pc' := 79) dX12_nearOf_61 (by decide) ?_
            refine pa_istore (pc' := 81) dX12_nearOf_79 (by decide) rfl rfl ?_
            refine pa_iload (pc' := 83) dX12_nearOf_81 (zget_s1 zget_s1e (by decide) (by simp [zcat])) rfl ?_
            refine pa_iload_n (pc' := 84) dX12_nearOf_83 (zget_s1 (zget_s1 hl3 (by decide) (by simp [zcat])) (by decide) (by simp [zcat])) rfl ?_
            refine pa_icmp_f (pc' := 87) dX12_nearOf_84 (zk_lt_ge (b := true) (zj_lt (by rw [nI_toInt (by omega), nI_toInt (by omega)]; omega))) (by decide) rfl ?_
            refine pa_iload (pc' := 89) dX12_nearOf_87 (zget_s1 zget_s1e (by decide) (by simp [zcat])) rfl ?_
            refine pa_goto (pc' := 93) dX12_nearOf_89 (by decide) ?_
            refine pa_istore_n (pc' := 94) dX12_nearOf_93 (by decide) rfl rfl ?_
            exact nx _ es _ (zget_s1 (zget_s1 (zget_s1 hl0 (by decide) (by simp [zcat])) (by decide) (by simp [zcat])) (by decide) (by simp [zcat])) (zget_s1 (zget_s1 (zget_s1 hl1 (by decide) (by simp [zcat])) (by decide) (by simp [zcat])) (by decide) (by simp [zcat])) (zget_s1 (zget_s1 (zget_s1 hl2 (by decide) (by simp [zcat])) (by decide) (by simp [zcat])) (by decide) (by simp [zcat])) zget_s1e (zget_s1 zget_s1e (by decide) (by simp [zcat])) (zget_s1 (zget_s1 (zget_s1 hl5 (by decide) (by simp [zcat])) (by decide) (by simp [zcat])) (by decide) (by simp [zcat]))
          · rw [if_neg z2] at es
            refine pa_icmp_t (pc' := 64) dX12_nearOf_57 (zk_lt_ge (b := false) (zj_nlt (by rw [nI_toInt (by omega), nI_toInt (by omega)]; omega))) (by decide) ?_
            refine pa_iload (pc' := 66) dX12_nearOf_64 zget_s1e rfl ?_
            refine pa_iload_n (pc' := 67) dX12_nearOf_66 (zget_s1 hl3 (by decide) (by simp [zcat])) rfl ?_
            by_cases z3 : u = (f i).1
            · rw [if_pos z3] at es
              refine pa_icmp_f (pc' := 70) dX12_nearOf_67 (decide_eq_false (not_not_intro (by rw [z3]))) (by decide) rfl ?_
              refine pa_iload (pc' := 72) dX12_nearOf_70 (zget_s1 hl4 (by decide) (by simp [zcat])) rfl ?_
              refine pa_iconst (v := nI 1) (pc' := 73) dX12_nearOf_72 (by decide) rfl ?_
              refine pa_iadd (pc' := 74) (v := nI ((f i).2 + 1)) dX12_nearOf_73 (nI_add _ _) rfl ?_
              refine pa_goto (pc' := 79) dX12_nearOf_74 (by decide) ?_
              refine pa_istore (pc' := 81) dX12_nearOf_79 (by decide) rfl rfl ?_
              refine pa_iload (pc' := 83) dX12_nearOf_81 (zget_s1 zget_s1e (by decide) (by simp [zcat])) rfl ?_
              refine pa_iload_n (pc' := 84) dX12_nearOf_83 (zget_s1 (zget_s1 hl3 (by decide) (by simp [zcat])) (by decide) (by simp [zcat])) rfl ?_
              refine pa_icmp_t (pc' := 92) dX12_nearOf_84 (zk_lt_ge (b := false) (zj_nlt (by rw [nI_toInt (by omega), nI_toInt (by omega)]; omega))) (by decide) ?_
              refine pa_iload_n (pc' := 93) dX12_nearOf_92 (zget_s1 (zget_s1 hl3 (by decide) (by simp [zcat])) (by decide) (by simp [zcat])) rfl ?_
              refine pa_istore_n (pc' := 94) dX12_nearOf_93 (by decide) rfl rfl ?_
              exact nx _ es _ (zget_s1 (zget_s1 (zget_s1 hl0 (by decide) (by simp [zcat])) (by decide) (by simp [zcat])) (by decide) (by simp [zcat])) (zget_s1 (zget_s1 (zget_s1 hl1 (by decide) (by simp [zcat])) (by decide) (by simp [zcat])) (by decide) (by simp [zcat])) (zget_s1 (zget_s1 (zget_s1 hl2 (by decide) (by simp [zcat])) (by decide) (by simp [zcat])) (by decide) (by simp [zcat])) zget_s1e (zget_s1 zget_s1e (by decide) (by simp [zcat])) (zget_s1 (zget_s1 (zget_s1 hl5 (by decide) (by simp [zcat])) (by decide) (by simp [zcat])) (by decide) (by simp [zcat]))
            · rw [if_neg z3] at es
              refine pa_icmp_t (pc' := 77) dX12_nearOf_67 (decide_eq_true (fun q => z3 (by have := congrArg Int32.toInt q; rw [nI_toInt (by omega), nI_toInt (by omega)] at this; omega))) (by decide) ?_
              refine pa_iload (pc' := 79) dX12_nearOf_77 (zget_s1 hl4 (by decide) (by simp [zcat])) rfl ?_
              refine pa_istore (pc' := 81) dX12_nearOf_79 (by decide) rfl rfl ?_
              refine pa_iload (pc' := 83) dX12_nearOf_81 (zget_s1 zget_s1e (by decide) (by simp [zcat])) rfl ?_
              refine pa_iload_n (pc' := 84) dX12_nearOf_83 (zget_s1 (zget_s1 hl3 (by decide) (by simp [zcat])) (by decide) (by simp [zcat])) rfl ?_
              refine pa_icmp_t (pc' := 92) dX12_nearOf_84 (zk_lt_ge (b := false) (zj_nlt (by rw [nI_toInt (by omega), nI_toInt (by omega)]; omega))) (by decide) ?_
              refine pa_iload_n (pc' := 93) dX12_nearOf_92 (zget_s1 (zget_s1 hl3 (by decide) (by simp [zcat])) (by decide) (by simp [zcat])) rfl ?_
              refine pa_istore_n (pc' := 94) dX12_nearOf_93 (by decide) rfl rfl ?_
              exact nx _ es _ (zget_s1 (zget_s1 (zget_s1 hl0 (by decide) (by simp [zcat])) (by decide) (by simp [zcat])) (by decide) (by simp [zcat])) (zget_s1 (zget_s1 (zget_s1 hl1 (by decide) (by simp [zcat])) (by decide) (by simp [zcat])) (by decide) (by simp [zcat])) (zget_s1 (zget_s1 (zget_s1 hl2 (by decide) (by simp [zcat])) (by decide) (by simp [zcat])) (by decide) (by simp [zcat])) zget_s1e (zget_s1 zget_s1e (by decide) (by simp [zcat])) (zget_s1 (zget_s1 (zget_s1 hl5 (by decide) (by simp [zcat])) (by decide) (by simp [zcat])) (by decide) (by simp [zcat]))
        · have lS := (K.2.2.2.2 i (by omega)).2.2.2
          refine pa_icmp_f (pc' := 34) dX12_nearOf_31 (decide_eq_false (fun q => z1 (by have := congrArg Int32.toInt q; rw [nI_toInt (by omega), nI_toInt (by omega)] at this; omega))) (by decide) rfl ?_
          refine pa_goto (pc' := 94) dX12_nearOf_34 (by decide) ?_
          refine nx (f i) ?_ _ hl0 hl1 hl2 hl3 hl4 hl5
          rw [fs]
          unfold nrS
          rw [ol, if_neg z1]
  have e0 : f 0 = (7, 0) := by rw [← ef]; rfl
  show zPn N none d mX12_nearOf (0, [(0, .inr (.inr (some 196))), (1, .inl (nI b)), (2, .inl m)], [], h) _
  refine pa_bipush (v := nI 7) (pc' := 2) dX12_nearOf_0 (by decide) rfl ?_
  refine pa_istore_n (pc' := 3) dX12_nearOf_2 (by decide) rfl rfl ?_
  refine pa_iconst (v := nI 0) (pc' := 4) dX12_nearOf_3 (by decide) rfl ?_
  refine pa_istore (pc' := 6) dX12_nearOf_4 (by decide) rfl rfl ?_
  refine pa_iconst (v := nI 0) (pc' := 7) dX12_nearOf_6 (by decide) rfl ?_
  refine pa_istore (pc' := 9) dX12_nearOf_7 (by decide) rfl rfl ?_
  exact lp N 0 _ (Nat.zero_le _) rfl rfl rfl (by rw [e0]; rfl) (by rw [e0]; rfl) rfl
theorem N_near11 (z : lZ A c s H J h) (hi : lInv t h) : zPa d mX11_near [.inr (.inr (some 0)), .inl x] h (fun v _ => v = some (.inl (heV A s x (fun b => nI (hfA A (s.2.2.2.2.2 b) s.1).1)))) := by
  intro N
  have h1 := hi.2.2.2.2.1
  have hA := z.1.1
  have hT := z.1.2.1
  have hB := z.1.2.2
  have hI := hA.1
  have hN := z.2.1.1
  have K := hA.2.2.2.1
  have hc2 : c = 2 ∨ c = 42 := hA.2.1
  obtain ⟨b1, b2, b3, b4, b5⟩ := hI.2.2.1
  have s0 : zsh h 0 = some (11, 16) := zsh_by h1 (by decide +kernel)
  obtain ⟨sc, sc1, sc2, sc4, sc5, scw, scb⟩ := cSh hA.2.1 h1
  obtain ⟨c9, c12, c13, cw, cb⟩ := cRf_of hi.1 hA.2.1
  have S := hi.nw
  obtain ⟨⟨s86, s87, s88, s89, s90, s91⟩, r87, r88, r89, r90, r91⟩ := S.o86
  have r3 := hA.2.2.1
  have r6 := S.2.1
  obtain ⟨n1, n2, n3, n4⟩ := z.2.2.1.1
  show zPn N none d mX11_near (0, [(0, .inr (.inr (some 0))), (1, .inl x)], [], h) _
  refine pa_aload_n (pc' := 1) dX11_near_0 rfl rfl ?_
  refine pa_iload_n (pc' := 2) dX11_near_1 rfl rfl ?_
  refine pa_callv (pc' := 5) (vs := [.inl x]) (rest := []) dX11_near_2 ml_11_147 (by decide) rfl rfl rfl (fun d' _ => (N_isBox hA h1)) (fun v g9 hq => ?_)
  obtain ⟨ev, eh⟩ := hq
  subst ev
  rw [eh]
  show zPn N none d mX11_near (5, _, [.inl (if 0 ≤ x.toInt ∧ x.toInt < (cB A:Int) then 1 else 0)], h) _
  by_cases hx : 0 ≤ x.toInt ∧ x.toInt < (cB A : Int)
  case neg =>
    rw [if_neg hx]
    refine pa_if_f (pc' := 8) dX11_near_5 (by decide) (by decide) rfl ?_
    refine pa_aload_n (pc' := 9) dX11_near_8 rfl rfl ?_
    refine pa_iconst (v := nI 1) (pc' := 10) dX11_near_9 (by decide) rfl ?_
    refine pa_callv (pc' := 13) (vs := [.inl (nI 1)]) (rest := []) dX11_near_10 ml_11_98 (by decide) rfl rfl rfl (fun d' _ => (c_ref s0)) (fun v g hq => ?_)
    obtain ⟨ev, eh⟩ := hq
    subst ev
    show zPn N none d mX11_near (13, _, [.inl ((-1))], g) _
    refine pa_iret dX11_near_13 rfl rfl ?_
    unfold heV
    rw [if_neg hx]
  rw [if_pos hx]
  obtain ⟨b, rfl, hb, eb⟩ := nI_ob hx.1 hx.2
  have B := z.bc hi (hA.has hb)
  have hy := hN.1
  refine pa_if_t (pc' := 14) dX11_near_5 (by decide) (by decide) ?_
  refine pa_aload_n (pc' := 15) dX11_near_14 rfl rfl ?_
  refine pa_iload_n (pc' := 16) dX11_near_15 rfl rfl ?_
  refine pa_aload_n (pc' := 17) dX11_near_16 rfl rfl ?_
  refine pa_getR (pc' := 20) (n := 16) (r := 86) dX11_near_17 fl_11_42 s0 (by decide) r6 rfl ?_
  refine pa_getI (pc' := 23) (n := 7) (v := nI s.1) dX11_near_20 fl_11_180 s86 (by decide) n1 rfl ?_
  refine pa_callv (pc' := 26) (vs := [.inl (nI b), .inl (nI s.1)]) (rest := []) dX11_near_23 ml_11_201 (by decide) rfl rfl rfl (fun d' _ => (N_hearerIn B (hi.h0 hA) hb (by omega))) (fun v g hq => ?_)
  obtain ⟨ev, eh⟩ := hq
  subst ev
  show zPn N none d mX11_near (26, _, [.inl (heA A (s.2.2.2.2.2 b) s.1)], g) _
  have t0 : zsh g 0 = some (11, 16) := zsh_by (eh.1.1.trans h1) (by decide +kernel)
  have t92 : zsh g 92 = some (7, 6) := zsh_by (eh.1.1.trans h1) (by decide +kernel)
  have u7 : g.2.2.2.1 0 7 = some 92 := by rw [eh.1.2.1]; exact (hi.h0 hA).1
  have u2 := eh.2.1
  refine pa_pop (pc' := 27) dX11_near_26 rfl rfl ?_
  refine pa_aload_n (pc' := 28) dX11_near_27 rfl rfl ?_
  refine pa_aload_n (pc' := 29) dX11_near_28 rfl rfl ?_
  refine pa_getR (pc' := 32) (n := 16) (r := 92) dX11_near_29 fl_11_51 t0 (by decide) u7 rfl ?_
  refine pa_getI (pc' := 35) (n := 6) (v := nI ((hfA A (s.2.2.2.2.2 b) s.1).1)) dX11_near_32 fl_11_268 t92 (by decide) u2 rfl ?_
  refine pa_callv (pc' := 38) (vs := [.inl (nI ((hfA A (s.2.2.2.2.2 b) s.1).1))]) (rest := []) dX11_near_35 ml_11_112 (by decide) rfl rfl rfl (fun d' _ => (c_gra t0)) (fun v g9 hq => ?_)
  obtain ⟨ev, eh⟩ := hq
  subst ev
  show zPn N none d mX11_near (38, _, [.inl (nI (((hfA A (s.2.2.2.2.2 b) s.1).1)))], g9) _
  refine pa_iret dX11_near_38 rfl rfl ?_
  unfold heV
  rw [if_pos hx, eb]
theorem N_near12 (z : lZ A c s H J g) (m : lMid kk im t g h) : zPa d mX12_near [.inr (.inr (some 196)), .inl x] h (fun v _ => v = some (.inl (heV A s x (fun b => nI (hfA A (s.2.2.2.2.2 b) s.1).1)))) := by
  intro N
  have s196 : zsh h 196 = some (12, 39) := zsh_by m.2.1.2.2.2 (by decide +kernel)
  generalize eg : zsI (zsI h 196 0 0) 196 11 0 = h2
  have e2 : ∀ a k, a ≠ 196 → h2.2.1 a k = h.2.1 a k := fun a k ha => by rw [← eg, zsI_no (by omega), zsI_no (by omega)]
  have e3 : ∀ k, k ≠ 0 → k ≠ 11 → h2.2.1 196 k = h.2.1 196 k := fun k w1 w2 => by rw [← eg, zsI_no (by omega), zsI_no (by omega)]
  have h1 : h2.1 = hh_487.1 := by rw [← eg]; exact m.2.1.2.2.2
  have hA : lPA A c h2 := by rw [← eg]; exact (m.pa z.1.1).gd
  have B : cI A ≠ 0 → bgM A s h2 := fun ne => by rw [← eg]; exact (z.bm m ne).gd
  have er : h2.2.2.2.1 = h.2.2.2.1 := by rw [← eg]; rfl
  have q15 : h2.2.2.2.1 196 15 = some 199 := by rw [er]; exact m.r15
  have q17 : h2.2.2.2.1 196 17 = some 201 := by rw [er]; exact m.mw.2.1
  have z196 : zsh h2 196 = some (12, 39) := zsh_by h1 (by decide +kernel)
  have z199 : zsh h2 199 = some (14, 363) := zsh_by h1 (by decide +kernel)
  have z201 : zsh h2 201 = some (14, 76) := zsh_by h1 (by decide +kernel)
  have M : nMo A s 201 0 h2 := (z.lm m).1.1.fr (fun k => e2 _ _ (by decide))
  have hT := z.1.2.1
  have hB := z.1.2.2
  have hI := z.1.1.1
  have hN := z.2.1.1
  have k0 : (0 : Int32).toInt = 0 := by decide
  obtain ⟨b1, b2, b3, b4, b5⟩ := hI.2.2.1
  show zPn N none d mX12_near (0, [(0, .inr (.inr (some 196))), (1, .inl x)], [], h) _
  refine pa_aload_n (pc' := 1) dX12_near_0 rfl rfl ?_
  refine pa_callv (pc' := 4) (vs := []) (rest := []) dX12_near_1 ml_12_167 (by decide) rfl rfl rfl (fun d' _ => (m_good s196)) (fun v h3 hq => ?_)
  obtain ⟨ev, eh⟩ := hq
  subst ev
  show zPn N none d mX12_near (4, _, [], h3) _
  rw [eg] at eh
  subst eh
  refine pa_aload_n (pc' := 5) dX12_near_4 rfl rfl ?_
  refine pa_iload_n (pc' := 6) dX12_near_5 rfl rfl ?_
  refine pa_callv (pc' := 9) (vs := [.inl x]) (rest := []) dX12_near_6 ml_12_274 (by decide) rfl rfl rfl (fun d' _ => (M_isBox hA q15 h1)) (fun v g9 hq => ?_)
  obtain ⟨ev, eh⟩ := hq
  subst ev
  rw [eh]
  show zPn N none d mX12_near (9, _, [.inl (if 0 ≤ x.toInt ∧ x.toInt < (cB A:Int) then 1 else 0)], h3) _
  by_cases hx : 0 ≤ x.toInt ∧ x.toInt < (cB A : Int)
  case neg =>
    rw [if_neg hx]
    refine pa_if_t (pc' := 21) dX12_near_9 (by decide) (by decide) ?_
    refine pa_aload_n (pc' := 22) dX12_near_21 rfl rfl ?_
    refine pa_iconst (v := nI 1) (pc' := 23) dX12_near_22 (by decide) rfl ?_
    refine pa_callv (pc' := 26) (vs := [.inl (nI 1)]) (rest := []) dX12_near_23 ml_12_170 (by decide) rfl rfl rfl (fun d' _ => (m_no z196)) (fun v g hq => ?_)
    obtain ⟨ev, eh⟩ := hq
    subst ev
    show zPn N none d mX12_near (26, _, [.inl ((-1))], g) _
    refine pa_iret dX12_near_26 rfl rfl ?_
    unfold heV
    rw [if_neg hx]
  rw [if_pos hx]
  obtain ⟨b, rfl, hb, eb⟩ := nI_ob hx.1 hx.2
  have B := B (hA.has hb)
  refine pa_if_f (pc' := 12) dX12_near_9 (by decide) (by decide) rfl ?_
  refine pa_aload_n (pc' := 13) dX12_near_12 rfl rfl ?_
  refine pa_iload_n (pc' := 14) dX12_near_13 rfl rfl ?_
  refine pa_iconst (v := 0) (pc' := 15) dX12_near_14 (by decide) rfl ?_
  refine pa_callv (pc' := 18) (vs := [.inl (nI b), .inl 0]) (rest := []) dX12_near_15 ml_12_308 (by decide) rfl rfl rfl (fun d' _ => (M_nearOf B hb (.inl rfl))) (fun v g9 hq => ?_)
  obtain ⟨ev, eh⟩ := hq
  subst ev
  rw [eh]
  show zPn N none d mX12_near (18, _, [.inl (nI ((hfA A (s.2.2.2.2.2 b) s.1).1))], h3) _
  refine pa_goto (pc' := 26) dX12_near_18 (by decide) ?_
  refine pa_iret dX12_near_26 rfl rfl ?_
  unfold heV
  rw [if_pos hx, eb]
theorem N_asNear11 (z : lZ A c s H J h) (hi : lInv t h) : zPa d mX11_asNear [.inr (.inr (some 0)), .inl x] h (fun v _ => v = some (.inl (heV A s x (fun b => nI (hfA A (s.2.2.2.2.2 b) s.1).2.1)))) := by
  intro N
  have h1 := hi.2.2.2.2.1
  have hA := z.1.1
  have hT := z.1.2.1
  have hB := z.1.2.2
  have hI := hA.1
  have hN := z.2.1.1
  have K := hA.2.2.2.1
  have hc2 : c = 2 ∨ c = 42 := hA.2.1
  obtain ⟨b1, b2, b3, b4, b5⟩ := hI.2.2.1
  have s0 : zsh h 0 = some (11, 16) := zsh_by h1 (by decide +kernel)
  obtain ⟨sc, sc1, sc2, sc4, sc5, scw, scb⟩ := cSh hA.2.1 h1
  obtain ⟨c9, c12, c13, cw, cb⟩ := cRf_of hi.1 hA.2.1
  have S := hi.nw
  obtain ⟨⟨s86, s87, s88, s89, s90, s91⟩, r87, r88, r89, r90, r91⟩ := S.o86
  have r3 := hA.2.2.1
  have r6 := S.2.1
  obtain ⟨n1, n2, n3, n4⟩ := z.2.2.1.1
  show zPn N none d mX11_asNear (0, [(0, .inr (.inr (some 0))), (1, .inl x)], [], h) _
  refine pa_aload_n (pc' := 1) dX11_asNear_0 rfl rfl ?_
  refine pa_iload_n (pc' := 2) dX11_asNear_1 rfl rfl ?_
  refine pa_callv (pc' := 5) (vs := [.inl x]) (rest := []) dX11_asNear_2 ml_11_147 (by decide) rfl rfl rfl (fun d' _ => (N_isBox hA h1)) (fun v g9 hq => ?_)
  obtain ⟨ev, eh⟩ := hq
  subst ev
  rw [eh]
  show zPn N none d mX11_asNear (5, _, [.inl (if 0 ≤ x.toInt ∧ x.toInt < (cB A:Int) then 1 else 0)], h) _
  by_cases hx : 0 ≤ x.toInt ∧ x.toInt < (cB A : Int)
  case neg =>
    rw [if_neg hx]
    refine pa_if_f (pc' := 8) dX11_asNear_5 (by decide) (by decide) rfl ?_
    refine pa_aload_n (pc' := 9) dX11_asNear_8 rfl rfl ?_
    refine pa_iconst (v := nI 1) (pc' := 10) dX11_asNear_9 (by decide) rfl ?_
    refine pa_callv (pc' := 13) (vs := [.inl (nI 1)]) (rest := []) dX11_asNear_10 ml_11_98 (by decide) rfl rfl rfl (fun d' _ => (c_ref s0)) (fun v g hq => ?_)
    obtain ⟨ev, eh⟩ := hq
    subst ev
    show zPn N none d mX11_asNear (13, _, [.inl ((-1))], g) _
    refine pa_iret dX11_asNear_13 rfl rfl ?_
    unfold heV
    rw [if_neg hx]
  rw [if_pos hx]
  obtain ⟨b, rfl, hb, eb⟩ := nI_ob hx.1 hx.2
  have B := z.bc hi (hA.has hb)
  have hy := hN.1
  refine pa_if_t (pc' := 14) dX11_asNear_5 (by decide) (by decide) ?_
  refine pa_aload_n (pc' := 15) dX11_asNear_14 rfl rfl ?_
  refine pa_iload_n (pc' := 16) dX11_asNear_15 rfl rfl ?_
  refine pa_aload_n (pc' := 17) dX11_asNear_16 rfl rfl ?_
  refine pa_getR (pc' := 20) (n := 16) (r := 86) dX11_asNear_17 fl_11_42 s0 (by decide) r6 rfl ?_
  refine pa_getI (pc' := 23) (n := 7) (v := nI s.1) dX11_asNear_20 fl_11_180 s86 (by decide) n1 rfl ?_
  refine pa_callv (pc' := 26) (vs := [.inl (nI b), .inl (nI s.1)]) (rest := []) dX11_asNear_23 ml_11_201 (by decide) rfl rfl rfl (fun d' _ => (N_hearerIn B (hi.h0 hA) hb (by omega))) (fun v g hq => ?_)
  obtain ⟨ev, eh⟩ := hq
  subst ev
  show zPn N none d mX11_asNear (26, _, [.inl (heA A (s.2.2.2.2.2 b) s.1)], g) _
  have t0 : zsh g 0 = some (11, 16) := zsh_by (eh.1.1.trans h1) (by decide +kernel)
  have t92 : zsh g 92 = some (7, 6) := zsh_by (eh.1.1.trans h1) (by decide +kernel)
  have u7 : g.2.2.2.1 0 7 = some 92 := by rw [eh.1.2.1]; exact (hi.h0 hA).1
  have u2 := eh.2.2
  refine pa_pop (pc' := 27) dX11_asNear_26 rfl rfl ?_
  refine pa_aload_n (pc' := 28) dX11_asNear_27 rfl rfl ?_
  refine pa_aload_n (pc' := 29) dX11_asNear_28 rfl rfl ?_
  refine pa_getR (pc' := 32) (n := 16) (r := 92) dX11_asNear_29 fl_11_51 t0 (by decide) u7 rfl ?_
  refine pa_getI (pc' := 35) (n := 6) (v := nI ((hfA A (s.2.2.2.2.2 b) s.1).2.1)) dX11_asNear_32 fl_11_271 t92 (by decide) u2 rfl ?_
  refine pa_callv (pc' := 38) (vs := [.inl (nI ((hfA A (s.2.2.2.2.2 b) s.1).2.1))]) (rest := []) dX11_asNear_35 ml_11_112 (by decide) rfl rfl rfl (fun d' _ => (c_gra t0)) (fun v g9 hq => ?_)
  obtain ⟨ev, eh⟩ := hq
  subst ev
  show zPn N none d mX11_asNear (38, _, [.inl (nI (((hfA A (s.2.2.2.2.2 b) s.1).2.1)))], g9) _
  refine pa_iret dX11_asNear_38 rfl rfl ?_
  unfold heV
  rw [if_pos hx, eb]
theorem N_asNear12 (z : lZ A c s H J g) (m : lMid kk im t g h) : zPa d mX12_asNear [.inr (.inr (some 196)), .inl x] h (fun v _ => v = some (.inl (heV A s x (fun b => nI (hfA A (s.2.2.2.2.2 b) s.1).2.1)))) := by
  intro N
  have s196 : zsh h 196 = some (12, 39) := zsh_by m.2.1.2.2.2 (by decide +kernel)
  generalize eg : zsI (zsI h 196 0 0) 196 11 0 = h2
  have e2 : ∀ a k, a ≠ 196 → h2.2.1 a k = h.2.1 a k := fun a k ha => by rw [← eg, zsI_no (by omega), zsI_no (by omega)]
  have e3 : ∀ k, k ≠ 0 → k ≠ 11 → h2.2.1 196 k = h.2.1 196 k := fun k w1 w2 => by rw [← eg, zsI_no (by omega), zsI_no (by omega)]
  have h1 : h2.1 = hh_487.1 := by rw [← eg]; exact m.2.1.2.2.2
  have hA : lPA A c h2 := by rw [← eg]; exact (m.pa z.1.1).gd
  have B : cI A ≠ 0 → bgM A s h2 := fun ne => by rw [← eg]; exact (z.bm m ne).gd
  have er : h2.2.2.2.1 = h.2.2.2.1 := by rw [← eg]; rfl
  have q15 : h2.2.2.2.1 196 15 = some 199 := by rw [er]; exact m.r15
  have q17 : h2.2.2.2.1 196 17 = some 201 := by rw [er]; exact m.mw.2.1
  have z196 : zsh h2 196 = some (12, 39) := zsh_by h1 (by decide +kernel)
  have z199 : zsh h2 199 = some (14, 363) := zsh_by h1 (by decide +kernel)
  have z201 : zsh h2 201 = some (14, 76) := zsh_by h1 (by decide +kernel)
  have M : nMo A s 201 0 h2 := (z.lm m).1.1.fr (fun k => e2 _ _ (by decide))
  have hT := z.1.2.1
  have hB := z.1.2.2
  have hI := z.1.1.1
  have hN := z.2.1.1
  have k0 : (0 : Int32).toInt = 0 := by decide
  obtain ⟨b1, b2, b3, b4, b5⟩ := hI.2.2.1
  show zPn N none d mX12_asNear (0, [(0, .inr (.inr (some 196))), (1, .inl x)], [], h) _
  refine pa_aload_n (pc' := 1) dX12_asNear_0 rfl rfl ?_
  refine pa_callv (pc' := 4) (vs := []) (rest := []) dX12_asNear_1 ml_12_167 (by decide) rfl rfl rfl (fun d' _ => (m_good s196)) (fun v h3 hq => ?_)
  obtain ⟨ev, eh⟩ := hq
  subst ev
  show zPn N none d mX12_asNear (4, _, [], h3) _
  rw [eg] at eh
  subst eh
  refine pa_aload_n (pc' := 5) dX12_asNear_4 rfl rfl ?_
  refine pa_iload_n (pc' := 6) dX12_asNear_5 rfl rfl ?_
  refine pa_callv (pc' := 9) (vs := [.inl x]) (rest := []) dX12_asNear_6 ml_12_274 (by decide) rfl rfl rfl (fun d' _ => (M_isBox hA q15 h1)) (fun v g9 hq => ?_)
  obtain ⟨ev, eh⟩ := hq
  subst ev
  rw [eh]
  show zPn N none d mX12_asNear (9, _, [.inl (if 0 ≤ x.toInt ∧ x.toInt < (cB A:Int) then 1 else 0)], h3) _
  by_cases hx : 0 ≤ x.toInt ∧ x.toInt < (cB A : Int)
  case neg =>
    rw [if_neg hx]
    refine pa_if_t (pc' := 21) dX12_asNear_9 (by decide) (by decide) ?_
    refine pa_aload_n (pc' := 22) dX12_asNear_21 rfl rfl ?_
    refine pa_iconst (v := nI 1) (pc' := 23) dX12_asNear_22 (by decide) rfl ?_
    refine pa_callv (pc' := 26) (vs := [.inl (nI 1)]) (rest := []) dX12_asNear_23 ml_12_170 (by decide) rfl rfl rfl (fun d' _ => (m_no z196)) (fun v g hq => ?_)
    obtain ⟨ev, eh⟩ := hq
    subst ev
    show zPn N none d mX12_asNear (26, _, [.inl ((-1))], g) _
    refine pa_iret dX12_asNear_26 rfl rfl ?_
    unfold heV
    rw [if_neg hx]
  rw [if_pos hx]
  obtain ⟨b, rfl, hb, eb⟩ := nI_ob hx.1 hx.2
  have B := B (hA.has hb)
  refine pa_if_f (pc' := 12) dX12_asNear_9 (by decide) (by decide) rfl ?_
  refine pa_aload_n (pc' := 13) dX12_asNear_12 rfl rfl ?_
  refine pa_iload_n (pc' := 14) dX12_asNear_13 rfl rfl ?_
  refine pa_iconst (v := 1) (pc' := 15) dX12_asNear_14 (by decide) rfl ?_
  refine pa_callv (pc' := 18) (vs := [.inl (nI b), .inl 1]) (rest := []) dX12_asNear_15 ml_12_308 (by decide) rfl rfl rfl (fun d' _ => (M_nearOf B hb (.inr rfl))) (fun v g9 hq => ?_)
  obtain ⟨ev, eh⟩ := hq
  subst ev
  rw [eh]
  show zPn N none d mX12_asNear (18, _, [.inl (nI ((hfA A (s.2.2.2.2.2 b) s.1).2.1))], h3) _
  refine pa_goto (pc' := 26) dX12_asNear_18 (by decide) ?_
  refine pa_iret dX12_asNear_26 rfl rfl ?_
  unfold heV
  rw [if_pos hx, eb]
theorem N_heardIn11 (z : lZ A c s H J h) (hi : lInv t h) : zPa d mX11_heardIn [.inr (.inr (some 0)), .inl x, .inl y] h (fun v _ => v = some (.inl (hiV A s x y))) := by
  intro N
  have h1 := hi.2.2.2.2.1
  have hA := z.1.1
  have hT := z.1.2.1
  have hB := z.1.2.2
  have hI := hA.1
  have hN := z.2.1.1
  have K := hA.2.2.2.1
  have hc2 : c = 2 ∨ c = 42 := hA.2.1
  obtain ⟨b1, b2, b3, b4, b5⟩ := hI.2.2.1
  have s0 : zsh h 0 = some (11, 16) := zsh_by h1 (by decide +kernel)
  obtain ⟨sc, sc1, sc2, sc4, sc5, scw, scb⟩ := cSh hA.2.1 h1
  obtain ⟨c9, c12, c13, cw, cb⟩ := cRf_of hi.1 hA.2.1
  have S := hi.nw
  obtain ⟨⟨s86, s87, s88, s89, s90, s91⟩, r87, r88, r89, r90, r91⟩ := S.o86
  have r3 := hA.2.2.1
  have r6 := S.2.1
  obtain ⟨n1, n2, n3, n4⟩ := z.2.2.1.1
  have hy9 := hN.1
  show zPn N none d mX11_heardIn (0, [(0, .inr (.inr (some 0))), (1, .inl x), (2, .inl y)], [], h) _
  refine pa_aload_n (pc' := 1) dX11_heardIn_0 rfl rfl ?_
  refine pa_iload_n (pc' := 2) dX11_heardIn_1 rfl rfl ?_
  refine pa_callv (pc' := 5) (vs := [.inl x]) (rest := []) dX11_heardIn_2 ml_11_147 (by decide) rfl rfl rfl (fun d' _ => (N_isBox hA h1)) (fun v g9 hq => ?_)
  obtain ⟨ev, eh⟩ := hq
  subst ev
  rw [eh]
  show zPn N none d mX11_heardIn (5, _, [.inl (if 0 ≤ x.toInt ∧ x.toInt < (cB A:Int) then 1 else 0)], h) _
  by_cases hx : 0 ≤ x.toInt ∧ x.toInt < (cB A : Int)
  case neg =>
    rw [if_neg hx]
    refine pa_if_f (pc' := 8) dX11_heardIn_5 (by decide) (by decide) rfl ?_
    refine pa_aload_n (pc' := 9) dX11_heardIn_8 rfl rfl ?_
    refine pa_iconst (v := nI 1) (pc' := 10) dX11_heardIn_9 (by decide) rfl ?_
    refine pa_callv (pc' := 13) (vs := [.inl (nI 1)]) (rest := []) dX11_heardIn_10 ml_11_98 (by decide) rfl rfl rfl (fun d' _ => (c_ref s0)) (fun v g hq => ?_)
    obtain ⟨ev, eh⟩ := hq
    subst ev
    show zPn N none d mX11_heardIn (13, _, [.inl ((-1))], g) _
    refine pa_iret dX11_heardIn_13 rfl rfl ?_
    unfold hiV
    rw [if_neg (fun q => hx q.1)]
  rw [if_pos hx]
  obtain ⟨b, rfl, hb, eb⟩ := nI_ob hx.1 hx.2
  have B := z.bc hi (hA.has hb)
  refine pa_if_t (pc' := 14) dX11_heardIn_5 (by decide) (by decide) ?_
  refine pa_iload_n (pc' := 15) dX11_heardIn_14 rfl rfl ?_
  refine pa_bipush (v := 99) (pc' := 17) dX11_heardIn_15 (by decide) rfl ?_
  refine pa_calls (pc' := 20) (kd := 1) (vs := [.inl y, .inl 99]) (rest := []) dX11_heardIn_17 ml_11_227 (.inl rfl) rfl rfl rfl (fun d' _ => N_inQ) (fun v g9 hq => ?_)
  obtain ⟨ev, eh⟩ := hq
  subst ev
  rw [eh]
  show zPn N none d mX11_heardIn (20, _, [.inl (if 0 ≤ (y).toInt ∧ (y).toInt ≤ ((99 : Int32)).toInt then 1 else 0)], h) _
  rw [show (99 : Int32).toInt = 99 by decide]
  by_cases hy : 0 ≤ y.toInt ∧ y.toInt ≤ 99
  case neg =>
    rw [if_neg hy]
    refine pa_if_f (pc' := 23) dX11_heardIn_20 (by decide) (by decide) rfl ?_
    refine pa_aload_n (pc' := 24) dX11_heardIn_23 rfl rfl ?_
    refine pa_iconst (v := nI 2) (pc' := 25) dX11_heardIn_24 (by decide) rfl ?_
    refine pa_callv (pc' := 28) (vs := [.inl (nI 2)]) (rest := []) dX11_heardIn_25 ml_11_98 (by decide) rfl rfl rfl (fun d' _ => (c_ref s0)) (fun v g hq => ?_)
    obtain ⟨ev, eh⟩ := hq
    subst ev
    show zPn N none d mX11_heardIn (28, _, [.inl ((-1))], g) _
    refine pa_iret dX11_heardIn_28 rfl rfl ?_
    unfold hiV
    rw [if_neg (fun q => hy q.2)]
  rw [if_pos hy]
  obtain ⟨n, rfl, hn, en⟩ := nI_ob (n := 100) hy.1 (by omega)
  refine pa_if_t (pc' := 29) dX11_heardIn_20 (by decide) (by decide) ?_
  refine pa_aload_n (pc' := 30) dX11_heardIn_29 rfl rfl ?_
  refine pa_aload_n (pc' := 31) dX11_heardIn_30 rfl rfl ?_
  refine pa_iload_n (pc' := 32) dX11_heardIn_31 rfl rfl ?_
  refine pa_aload_n (pc' := 33) dX11_heardIn_32 rfl rfl ?_
  refine pa_getR (pc' := 36) (n := 16) (r := 86) dX11_heardIn_33 fl_11_42 s0 (by decide) r6 rfl ?_
  refine pa_getI (pc' := 39) (n := 7) (v := nI s.1) dX11_heardIn_36 fl_11_180 s86 (by decide) n1 rfl ?_
  refine pa_iload_n (pc' := 40) dX11_heardIn_39 rfl rfl ?_
  refine pa_iadd (pc' := 41) (v := nI (s.1 + n)) dX11_heardIn_40 (nI_add _ _) rfl ?_
  refine pa_callv (pc' := 44) (vs := [.inl (nI b), .inl (nI (s.1 + n))]) (rest := [.inr (.inr (some 0))]) dX11_heardIn_41 ml_11_201 (by decide) rfl rfl rfl (fun d' _ => (N_hearerIn B (hi.h0 hA) hb (by omega))) (fun v g hq => ?_)
  obtain ⟨ev, eh⟩ := hq
  subst ev
  show zPn N none d mX11_heardIn (44, _, [.inl (heA A (s.2.2.2.2.2 b) (s.1 + n)), .inr (.inr (some 0))], g) _
  have t0 : zsh g 0 = some (11, 16) := zsh_by (eh.1.1.trans h1) (by decide +kernel)
  refine pa_callv (pc' := 47) (vs := [.inl (heA A (s.2.2.2.2.2 b) (s.1 + n))]) (rest := []) dX11_heardIn_44 ml_11_112 (by decide) rfl rfl rfl (fun d' _ => (c_gra t0)) (fun v g9 hq => ?_)
  obtain ⟨ev, eh⟩ := hq
  subst ev
  show zPn N none d mX11_heardIn (47, _, [.inl ((heA A (s.2.2.2.2.2 b) (s.1 + n)))], g9) _
  refine pa_iret dX11_heardIn_47 rfl rfl ?_
  unfold hiV
  rw [if_pos ⟨hx, hy⟩, eb, en]
theorem N_heardIn12 (z : lZ A c s H J g) (m : lMid kk im t g h) : zPa d mX12_heardIn [.inr (.inr (some 196)), .inl x, .inl y] h (fun v _ => v = some (.inl (hiV A s x y))) := by
  intro N
  have s196 : zsh h 196 = some (12, 39) := zsh_by m.2.1.2.2.2 (by decide +kernel)
  generalize eg : zsI (zsI h 196 0 0) 196 11 0 = h2
  have e2 : ∀ a k, a ≠ 196 → h2.2.1 a k = h.2.1 a k := fun a k ha => by rw [← eg, zsI_no (by omega), zsI_no (by omega)]
  have e3 : ∀ k, k ≠ 0 → k ≠ 11 → h2.2.1 196 k = h.2.1 196 k := fun k w1 w2 => by rw [← eg, zsI_no (by omega), zsI_no (by omega)]
  have h1 : h2.1 = hh_487.1 := by rw [← eg]; exact m.2.1.2.2.2
  have hA : lPA A c h2 := by rw [← eg]; exact (m.pa z.1.1).gd
  have B : cI A ≠ 0 → bgM A s h2 := fun ne => by rw [← eg]; exact (z.bm m ne).gd
  have er : h2.2.2.2.1 = h.2.2.2.1 := by rw [← eg]; rfl
  have q15 : h2.2.2.2.1 196 15 = some 199 := by rw [er]; exact m.r15
  have q17 : h2.2.2.2.1 196 17 = some 201 := by rw [er]; exact m.mw.2.1
  have z196 : zsh h2 196 = some (12, 39) := zsh_by h1 (by decide +kernel)
  have z199 : zsh h2 199 = some (14, 363) := zsh_by h1 (by decide +kernel)
  have z201 : zsh h2 201 = some (14, 76) := zsh_by h1 (by decide +kernel)
  have M : nMo A s 201 0 h2 := (z.lm m).1.1.fr (fun k => e2 _ _ (by decide))
  have hT := z.1.2.1
  have hB := z.1.2.2
  have hI := z.1.1.1
  have hN := z.2.1.1
  have k0 : (0 : Int32).toInt = 0 := by decide
  obtain ⟨b1, b2, b3, b4, b5⟩ := hI.2.2.1
  have hy9 := hN.1
  show zPn N none d mX12_heardIn (0, [(0, .inr (.inr (some 196))), (1, .inl x), (2, .inl y)], [], h) _
  refine pa_aload_n (pc' := 1) dX12_heardIn_0 rfl rfl ?_
  refine pa_callv (pc' := 4) (vs := []) (rest := []) dX12_heardIn_1 ml_12_167 (by decide) rfl rfl rfl (fun d' _ => (m_good s196)) (fun v h3 hq => ?_)
  obtain ⟨ev, eh⟩ := hq
  subst ev
  show zPn N none d mX12_heardIn (4, _, [], h3) _
  rw [eg] at eh
  subst eh
  refine pa_aload_n (pc' := 5) dX12_heardIn_4 rfl rfl ?_
  refine pa_iload_n (pc' := 6) dX12_heardIn_5 rfl rfl ?_
  refine pa_callv (pc' := 9) (vs := [.inl x]) (rest := []) dX12_heardIn_6 ml_12_274 (by decide) rfl rfl rfl (fun d' _ => (M_isBox hA q15 h1)) (fun v g9 hq => ?_)
  obtain ⟨ev, eh⟩ := hq
  subst ev
  rw [eh]
  show zPn N none d mX12_heardIn (9, _, [.inl (if 0 ≤ x.toInt ∧ x.toInt < (cB A:Int) then 1 else 0)], h3) _
  by_cases hx : 0 ≤ x.toInt ∧ x.toInt < (cB A : Int)
  case neg =>
    rw [if_neg hx]
    refine pa_if_f (pc' := 12) dX12_heardIn_9 (by decide) (by decide) rfl ?_
    refine pa_aload_n (pc' := 13) dX12_heardIn_12 rfl rfl ?_
    refine pa_iconst (v := nI 1) (pc' := 14) dX12_heardIn_13 (by decide) rfl ?_
    refine pa_callv (pc' := 17) (vs := [.inl (nI 1)]) (rest := []) dX12_heardIn_14 ml_12_170 (by decide) rfl rfl rfl (fun d' _ => (m_no z196)) (fun v g hq => ?_)
    obtain ⟨ev, eh⟩ := hq
    subst ev
    show zPn N none d mX12_heardIn (17, _, [.inl ((-1))], g) _
    refine pa_iret dX12_heardIn_17 rfl rfl ?_
    unfold hiV
    rw [if_neg (fun q => hx q.1)]
  rw [if_pos hx]
  obtain ⟨b, rfl, hb, eb⟩ := nI_ob hx.1 hx.2
  have B := B (hA.has hb)
  obtain ⟨l6, l2⟩ := lb_ok hI hB hT hb
  obtain ⟨ok, ol, -⟩ := hN.2.2 b hb
  have ny : h3.2.1 201 0 = nI s.1 := M.1
  refine pa_if_t (pc' := 18) dX12_heardIn_9 (by decide) (by decide) ?_
  refine pa_iload_n (pc' := 19) dX12_heardIn_18 rfl rfl ?_
  refine pa_iconst (v := 0) (pc' := 20) dX12_heardIn_19 (by decide) rfl ?_
  refine pa_bipush (v := 99) (pc' := 22) dX12_heardIn_20 (by decide) rfl ?_
  refine pa_calls (pc' := 25) (kd := 1) (vs := [.inl y, .inl 0, .inl 99]) (rest := []) dX12_heardIn_22 ml_12_149 (.inl rfl) rfl rfl rfl (fun d' _ => in_v) (fun v g9 hq => ?_)
  obtain ⟨ev, eh⟩ := hq
  subst ev
  rw [eh]
  show zPn N none d mX12_heardIn (25, _, [.inl (if ((0 : Int32)).toInt ≤ (y).toInt ∧ (y).toInt ≤ ((99 : Int32)).toInt then 1 else 0)], h3) _
  rw [k0, show (99 : Int32).toInt = 99 by decide]
  by_cases hy : 0 ≤ y.toInt ∧ y.toInt ≤ 99
  case neg =>
    rw [if_neg hy]
    refine pa_if_t (pc' := 46) dX12_heardIn_25 (by decide) (by decide) ?_
    refine pa_aload_n (pc' := 47) dX12_heardIn_46 rfl rfl ?_
    refine pa_iconst (v := nI 2) (pc' := 48) dX12_heardIn_47 (by decide) rfl ?_
    refine pa_callv (pc' := 51) (vs := [.inl (nI 2)]) (rest := []) dX12_heardIn_48 ml_12_170 (by decide) rfl rfl rfl (fun d' _ => (m_no z196)) (fun v g hq => ?_)
    obtain ⟨ev, eh⟩ := hq
    subst ev
    show zPn N none d mX12_heardIn (51, _, [.inl ((-1))], g) _
    refine pa_iret dX12_heardIn_51 rfl rfl ?_
    unfold hiV
    rw [if_neg (fun q => hy q.2)]
  rw [if_pos hy]
  obtain ⟨n, rfl, hn, en⟩ := nI_ob (n := 100) hy.1 (by omega)
  have hr : ∀ d, zPa d mX12_hearsIn [.inr (.inr (some 196)), .inl (nI b), .inl (nI (s.1 + n)), .inl (-1), .inl 0] h3 (fun v g => v = some (.inl (heA A (s.2.2.2.2.2 b) (s.1 + n))) ∧ g = h3) := fun d => M_hearsIn B.2.2.1 (by omega) (M_cpr B hb).1 (num_box hI hB hT hb).2.1 rfl (by omega) (M_cpr B hb).2 ol ok
  refine pa_if_f (pc' := 28) dX12_heardIn_25 (by decide) (by decide) rfl ?_
  refine pa_aload_n (pc' := 29) dX12_heardIn_28 rfl rfl ?_
  refine pa_iload_n (pc' := 30) dX12_heardIn_29 rfl rfl ?_
  refine pa_aload_n (pc' := 31) dX12_heardIn_30 rfl rfl ?_
  refine pa_getR (pc' := 34) (n := 39) (r := 201) dX12_heardIn_31 fl_12_26 z196 (by decide) q17 rfl ?_
  refine pa_iconst (v := nI 0) (pc' := 35) dX12_heardIn_34 (by decide) rfl ?_
  refine pa_iald (pc' := 36) dX12_heardIn_35 z201 rfl (fun _ => ?_)
  rw [nI_clamp (by omega), ny]
  refine pa_iload_n (pc' := 37) dX12_heardIn_36 rfl rfl ?_
  refine pa_iadd (pc' := 38) (v := nI (s.1 + n)) dX12_heardIn_37 (nI_add _ _) rfl ?_
  refine pa_iconst (v := (-1)) (pc' := 39) dX12_heardIn_38 (by decide) rfl ?_
  refine pa_iconst (v := 0) (pc' := 40) dX12_heardIn_39 (by decide) rfl ?_
  refine pa_callv (pc' := 43) (vs := [.inl (nI b), .inl (nI (s.1 + n)), .inl ((-1)), .inl 0]) (rest := []) dX12_heardIn_40 ml_12_291 (by decide) rfl rfl rfl (fun d' _ => hr d') (fun v g9 hq => ?_)
  obtain ⟨ev, eh⟩ := hq
  subst ev
  rw [eh]
  show zPn N none d mX12_heardIn (43, _, [.inl (heA A (s.2.2.2.2.2 b) (s.1 + n))], h3) _
  refine pa_goto (pc' := 51) dX12_heardIn_43 (by decide) ?_
  refine pa_iret dX12_heardIn_51 rfl rfl ?_
  unfold hiV
  rw [if_pos ⟨hx, hy⟩, eb, en]
theorem N_sets11 (z : lZ A c s H J h) (hi : lInv t h) : zPa d mX11_sets [.inr (.inr (some 0)), .inl x, .inl k, .inl y] h (fun v _ => v = some (.inl (seV A s x k y))) := by
  intro N
  have h1 := hi.2.2.2.2.1
  have hA := z.1.1
  have hT := z.1.2.1
  have hB := z.1.2.2
  have hI := hA.1
  have hN := z.2.1.1
  have K := hA.2.2.2.1
  have hc2 : c = 2 ∨ c = 42 := hA.2.1
  obtain ⟨b1, b2, b3, b4, b5⟩ := hI.2.2.1
  have s0 : zsh h 0 = some (11, 16) := zsh_by h1 (by decide +kernel)
  obtain ⟨sc, sc1, sc2, sc4, sc5, scw, scb⟩ := cSh hA.2.1 h1
  obtain ⟨c9, c12, c13, cw, cb⟩ := cRf_of hi.1 hA.2.1
  have S := hi.nw
  obtain ⟨⟨s86, s87, s88, s89, s90, s91⟩, r87, r88, r89, r90, r91⟩ := S.o86
  have r3 := hA.2.2.1
  have r6 := S.2.1
  obtain ⟨n1, n2, n3, n4⟩ := z.2.2.1.1
  show zPn N none d mX11_sets (0, [(0, .inr (.inr (some 0))), (1, .inl x), (2, .inl k), (3, .inl y)], [], h) _
  refine pa_aload_n (pc' := 1) dX11_sets_0 rfl rfl ?_
  refine pa_iload_n (pc' := 2) dX11_sets_1 rfl rfl ?_
  refine pa_callv (pc' := 5) (vs := [.inl x]) (rest := []) dX11_sets_2 ml_11_121 (by decide) rfl rfl rfl (fun d' _ => (N_isWhale hA h1)) (fun v g9 hq => ?_)
  obtain ⟨ev, eh⟩ := hq
  subst ev
  rw [eh]
  show zPn N none d mX11_sets (5, _, [.inl (if 0 ≤ x.toInt ∧ x.toInt < (cH A:Int) then 1 else 0)], h) _
  by_cases hx : 0 ≤ x.toInt ∧ x.toInt < (cH A : Int)
  case neg =>
    rw [if_neg hx]
    refine pa_if_t (pc' := 16) dX11_sets_5 (by decide) (by decide) ?_
    refine pa_aload_n (pc' := 17) dX11_sets_16 rfl rfl ?_
    refine pa_iconst (v := nI 1) (pc' := 18) dX11_sets_17 (by decide) rfl ?_
    refine pa_callv (pc' := 21) (vs := [.inl (nI 1)]) (rest := []) dX11_sets_18 ml_11_98 (by decide) rfl rfl rfl (fun d' _ => (c_ref s0)) (fun v g hq => ?_)
    obtain ⟨ev, eh⟩ := hq
    subst ev
    show zPn N none d mX11_sets (21, _, [.inl ((-1))], g) _
    refine pa_iret dX11_sets_21 rfl rfl ?_
    unfold seV
    rw [if_neg (fun q => hx q.1.1)]
  rw [if_pos hx]
  refine pa_if_f (pc' := 8) dX11_sets_5 (by decide) (by decide) rfl ?_
  refine pa_aload_n (pc' := 9) dX11_sets_8 rfl rfl ?_
  refine pa_iload_n (pc' := 10) dX11_sets_9 rfl rfl ?_
  refine pa_callv (pc' := 13) (vs := [.inl k]) (rest := []) dX11_sets_10 ml_11_230 (by decide) rfl rfl rfl (fun d' _ => (N_isWay hA h1)) (fun v g9 hq => ?_)
  obtain ⟨ev, eh⟩ := hq
  subst ev
  rw [eh]
  show zPn N none d mX11_sets (13, _, [.inl (if 0 ≤ k.toInt ∧ k.toInt < (cW A:Int) then 1 else 0)], h) _
  by_cases hk : 0 ≤ k.toInt ∧ k.toInt < (cW A : Int)
  case neg =>
    rw [if_neg hk]
    refine pa_if_f (pc' := 16) dX11_sets_13 (by decide) (by decide) rfl ?_
    refine pa_aload_n (pc' := 17) dX11_sets_16 rfl rfl ?_
    refine pa_iconst (v := nI 1) (pc' := 18) dX11_sets_17 (by decide) rfl ?_
    refine pa_callv (pc' := 21) (vs := [.inl (nI 1)]) (rest := []) dX11_sets_18 ml_11_98 (by decide) rfl rfl rfl (fun d' _ => (c_ref s0)) (fun v g hq => ?_)
    obtain ⟨ev, eh⟩ := hq
    subst ev
    show zPn N none d mX11_sets (21, _, [.inl ((-1))], g) _
    refine pa_iret dX11_sets_21 rfl rfl ?_
    unfold seV
    rw [if_neg (fun q => hk q.1.2)]
  rw [if_pos hk]
  refine pa_if_t (pc' := 22) dX11_sets_13 (by decide) (by decide) ?_
  refine pa_iload_n (pc' := 23) dX11_sets_22 rfl rfl ?_
  refine pa_sipush (v := 9999) (pc' := 26) dX11_sets_23 (by decide) rfl ?_
  refine pa_calls (pc' := 29) (kd := 1) (vs := [.inl y, .inl 9999]) (rest := []) dX11_sets_26 ml_11_227 (.inl rfl) rfl rfl rfl (fun d' _ => N_inQ) (fun v g9 hq => ?_)
  obtain ⟨ev, eh⟩ := hq
  subst ev
  rw [eh]
  show zPn N none d mX11_sets (29, _, [.inl (if 0 ≤ (y).toInt ∧ (y).toInt ≤ ((9999 : Int32)).toInt then 1 else 0)], h) _
  rw [show (9999 : Int32).toInt = 9999 by decide]
  by_cases hy : 0 ≤ y.toInt ∧ y.toInt ≤ 9999
  case neg =>
    rw [if_neg hy]
    refine pa_if_f (pc' := 32) dX11_sets_29 (by decide) (by decide) rfl ?_
    refine pa_aload_n (pc' := 33) dX11_sets_32 rfl rfl ?_
    refine pa_iconst (v := nI 2) (pc' := 34) dX11_sets_33 (by decide) rfl ?_
    refine pa_callv (pc' := 37) (vs := [.inl (nI 2)]) (rest := []) dX11_sets_34 ml_11_98 (by decide) rfl rfl rfl (fun d' _ => (c_ref s0)) (fun v g hq => ?_)
    obtain ⟨ev, eh⟩ := hq
    subst ev
    show zPn N none d mX11_sets (37, _, [.inl ((-1))], g) _
    refine pa_iret dX11_sets_37 rfl rfl ?_
    unfold seV
    rw [if_neg (fun q => hy q.2)]
  rw [if_pos hy]
  obtain ⟨w, rfl, hw, ew⟩ := nI_ob hx.1 hx.2
  obtain ⟨j, rfl, hj, ej⟩ := nI_ob hk.1 hk.2
  obtain ⟨n, rfl, hn, en⟩ := nI_ob (n := 10000) hy.1 (by omega)
  have B := z.bc hi (hA.hasH hw)
  have V : seV A s (nI w) (nI j) (nI n) = if clB s.2.1 j = true then -2 else nI (gLv (kdA A w) (opA A j) n) := by
    unfold seV
    rw [if_pos ⟨⟨hx, hk⟩, hy⟩, ew, ej, en]
  rw [V]
  refine pa_if_t (pc' := 38) dX11_sets_29 (by decide) (by decide) ?_
  refine pa_aload_n (pc' := 39) dX11_sets_38 rfl rfl ?_
  refine pa_getR (pc' := 42) (n := 16) (r := 86) dX11_sets_39 fl_11_42 s0 (by decide) r6 rfl ?_
  refine pa_iload_n (pc' := 43) dX11_sets_42 rfl rfl ?_
  refine pa_callv (pc' := 46) (vs := [.inl (nI j)]) (rest := []) dX11_sets_43 ml_11_210 (by decide) rfl rfl rfl (fun d' _ => (N_isClosed h1 n2)) (fun v g9 hq => ?_)
  obtain ⟨ev, eh⟩ := hq
  subst ev
  rw [eh]
  show zPn N none d mX11_sets (46, _, [.inl (if clB s.2.1 j = true then 1 else 0)], h) _
  by_cases q : clB s.2.1 j = true
  · rw [if_pos q, if_pos q]
    refine pa_if_f (pc' := 49) dX11_sets_46 (by decide) (by decide) rfl ?_
    refine pa_aload_n (pc' := 50) dX11_sets_49 rfl rfl ?_
    refine pa_bipush (v := (-2)) (pc' := 52) dX11_sets_50 (by decide) rfl ?_
    refine pa_callv (pc' := 55) (vs := [.inl ((-2))]) (rest := []) dX11_sets_52 ml_11_112 (by decide) rfl rfl rfl (fun d' _ => (c_gra s0)) (fun v g9 hq => ?_)
    obtain ⟨ev, eh⟩ := hq
    subst ev
    show zPn N none d mX11_sets (55, _, [.inl (((-2)))], g9) _
    refine pa_iret dX11_sets_55 rfl rfl ?_
    rfl
  · rw [if_neg q, if_neg q]
    have sw := scw w (by omega)
    have rw_ := cw w (by omega)
    have ek := K.wh (j := 0) hT hI hw (by decide)
    have sy := B.2.1.wy (k := j) (by omega)
    have s94 : zsh h 94 = some (6, 7) := zsh_by h1 (by decide +kernel)
    have s3 : zsh h (c + 3) = some (19, 12) := by
      rcases hc2 with e | e <;> subst e <;> exact zsh_by h1 (by decide +kernel)
    have r8 := hi.r8
    have r11 := B.2.1.2.2.2.1.2.2.2.1
    have ry := B.2.1.2.2.2.1.2.2.2.2 j (by omega)
    have eo := (B.2.1.2.2.2.2.2 j hj).2.2.2.1
    refine pa_if_t (pc' := 56) dX11_sets_46 (by decide) (by decide) ?_
    refine pa_aload_n (pc' := 57) dX11_sets_56 rfl rfl ?_
    refine pa_aload_n (pc' := 58) dX11_sets_57 rfl rfl ?_
    refine pa_getR (pc' := 61) (n := 16) (r := 94) dX11_sets_58 fl_11_60 s0 (by decide) r8 rfl ?_
    refine pa_aload_n (pc' := 62) dX11_sets_61 rfl rfl ?_
    refine pa_getR (pc' := 65) (n := 16) (r := c) dX11_sets_62 fl_11_23 s0 (by decide) r3 rfl ?_
    refine pa_getR (pc' := 68) (n := 15) (r := c + 4) dX11_sets_65 fl_11_125 sc (by decide) c12 rfl ?_
    refine pa_iload_n (pc' := 69) dX11_sets_68 rfl rfl ?_
    refine pa_aald (pc' := 70) (r := c + 19 + w) dX11_sets_69 sc4 (by decide) (zn_in (by omega) (by omega)) (by rw [nI_clamp (by omega)]; exact rw_) rfl ?_
    refine pa_getI (pc' := 73) (n := 4) (v := kdA A w) dX11_sets_70 fl_11_129 sw (by decide) ek rfl ?_
    refine pa_aload_n (pc' := 74) dX11_sets_73 rfl rfl ?_
    refine pa_getR (pc' := 77) (n := 16) (r := c) dX11_sets_74 fl_11_23 s0 (by decide) r3 rfl ?_
    refine pa_getR (pc' := 80) (n := 15) (r := c + 3) dX11_sets_77 fl_11_213 sc (by decide) r11 rfl ?_
    refine pa_iload_n (pc' := 81) dX11_sets_80 rfl rfl ?_
    refine pa_aald (pc' := 82) (r := c + 7 + j) dX11_sets_81 s3 (by decide) (zn_in (by omega) (by omega)) (by rw [nI_clamp (by omega)]; exact ry) rfl ?_
    refine pa_getI (pc' := 85) (n := 4) (v := opA A j) dX11_sets_82 fl_11_233 sy (by decide) eo rfl ?_
    refine pa_iload_n (pc' := 86) dX11_sets_85 rfl rfl ?_
    refine pa_callv (pc' := 89) (vs := [.inl (kdA A w), .inl (opA A j), .inl (nI n)]) (rest := [.inr (.inr (some 0))]) dX11_sets_86 ml_11_236 (by decide) rfl rfl rfl (fun d' _ => (N_leaveA (by omega))) (fun v g9 hq => ?_)
    obtain ⟨ev, eh⟩ := hq
    subst ev
    rw [eh]
    show zPn N none d mX11_sets (89, _, [.inl (nI (gLv (kdA A w) (opA A j) n)), .inr (.inr (some 0))], h) _
    refine pa_callv (pc' := 92) (vs := [.inl (nI (gLv (kdA A w) (opA A j) n))]) (rest := []) dX11_sets_89 ml_11_112 (by decide) rfl rfl rfl (fun d' _ => (c_gra s0)) (fun v g9 hq => ?_)
    obtain ⟨ev, eh⟩ := hq
    subst ev
    show zPn N none d mX11_sets (92, _, [.inl (nI ((gLv (kdA A w) (opA A j) n)))], g9) _
    refine pa_iret dX11_sets_92 rfl rfl ?_
    rfl
theorem N_sets12 (z : lZ A c s H J g) (m : lMid kk im t g h) : zPa d mX12_sets [.inr (.inr (some 196)), .inl x, .inl k, .inl y] h (fun v _ => v = some (.inl (seV A s x k y))) := by
  intro N
  have s196 : zsh h 196 = some (12, 39) := zsh_by m.2.1.2.2.2 (by decide +kernel)
  generalize eg : zsI (zsI h 196 0 0) 196 11 0 = h2
  have e2 : ∀ a k, a ≠ 196 → h2.2.1 a k = h.2.1 a k := fun a k ha => by rw [← eg, zsI_no (by omega), zsI_no (by omega)]
  have e3 : ∀ k, k ≠ 0 → k ≠ 11 → h2.2.1 196 k = h.2.1 196 k := fun k w1 w2 => by rw [← eg, zsI_no (by omega), zsI_no (by omega)]
  have h1 : h2.1 = hh_487.1 := by rw [← eg]; exact m.2.1.2.2.2
  have hA : lPA A c h2 := by rw [← eg]; exact (m.pa z.1.1).gd
  have B : cI A ≠ 0 → bgM A s h2 := fun ne => by rw [← eg]; exact (z.bm m ne).gd
  have er : h2.2.2.2.1 = h.2.2.2.1 := by rw [← eg]; rfl
  have q15 : h2.2.2.2.1 196 15 = some 199 := by rw [er]; exact m.r15
  have q17 : h2.2.2.2.1 196 17 = some 201 := by rw [er]; exact m.mw.2.1
  have z196 : zsh h2 196 = some (12, 39) := zsh_by h1 (by decide +kernel)
  have z199 : zsh h2 199 = some (14, 363) := zsh_by h1 (by decide +kernel)
  have z201 : zsh h2 201 = some (14, 76) := zsh_by h1 (by decide +kernel)
  have M : nMo A s 201 0 h2 := (z.lm m).1.1.fr (fun k => e2 _ _ (by decide))
  have hT := z.1.2.1
  have hB := z.1.2.2
  have hI := z.1.1.1
  have hN := z.2.1.1
  have k0 : (0 : Int32).toInt = 0 := by decide
  obtain ⟨b1, b2, b3, b4, b5⟩ := hI.2.2.1
  show zPn N none d mX12_sets (0, [(0, .inr (.inr (some 196))), (1, .inl x), (2, .inl k), (3, .inl y)], [], h) _
  refine pa_aload_n (pc' := 1) dX12_sets_0 rfl rfl ?_
  refine pa_callv (pc' := 4) (vs := []) (rest := []) dX12_sets_1 ml_12_167 (by decide) rfl rfl rfl (fun d' _ => (m_good s196)) (fun v h3 hq => ?_)
  obtain ⟨ev, eh⟩ := hq
  subst ev
  show zPn N none d mX12_sets (4, _, [], h3) _
  rw [eg] at eh
  subst eh
  refine pa_aload_n (pc' := 5) dX12_sets_4 rfl rfl ?_
  refine pa_iload_n (pc' := 6) dX12_sets_5 rfl rfl ?_
  refine pa_callv (pc' := 9) (vs := [.inl x]) (rest := []) dX12_sets_6 ml_12_268 (by decide) rfl rfl rfl (fun d' _ => (M_isWhale hA q15 h1)) (fun v g9 hq => ?_)
  obtain ⟨ev, eh⟩ := hq
  subst ev
  rw [eh]
  show zPn N none d mX12_sets (9, _, [.inl (if 0 ≤ x.toInt ∧ x.toInt < (cH A:Int) then 1 else 0)], h3) _
  by_cases hx : 0 ≤ x.toInt ∧ x.toInt < (cH A : Int)
  case neg =>
    rw [if_neg hx]
    refine pa_if_t (pc' := 28) dX12_sets_9 (by decide) (by decide) ?_
    refine pa_aload_n (pc' := 29) dX12_sets_28 rfl rfl ?_
    refine pa_iconst (v := nI 1) (pc' := 30) dX12_sets_29 (by decide) rfl ?_
    refine pa_callv (pc' := 33) (vs := [.inl (nI 1)]) (rest := []) dX12_sets_30 ml_12_170 (by decide) rfl rfl rfl (fun d' _ => (m_no z196)) (fun v g hq => ?_)
    obtain ⟨ev, eh⟩ := hq
    subst ev
    show zPn N none d mX12_sets (33, _, [.inl ((-1))], g) _
    refine pa_iret dX12_sets_33 rfl rfl ?_
    unfold seV
    rw [if_neg (fun q => hx q.1.1)]
  rw [if_pos hx]
  obtain ⟨w, rfl, hw, ew⟩ := nI_ob hx.1 hx.2
  have B := B (hA.hasH hw)
  have e5 := B.2.1.2.2.2.2.1.2.1
  have pr := nI_prd (cW A) (by omega)
  refine pa_if_f (pc' := 12) dX12_sets_9 (by decide) (by decide) rfl ?_
  refine pa_iload_n (pc' := 13) dX12_sets_12 rfl rfl ?_
  refine pa_iconst (v := 0) (pc' := 14) dX12_sets_13 (by decide) rfl ?_
  refine pa_aload_n (pc' := 15) dX12_sets_14 rfl rfl ?_
  refine pa_getR (pc' := 18) (n := 39) (r := 199) dX12_sets_15 fl_12_20 z196 (by decide) q15 rfl ?_
  refine pa_iconst (v := nI 5) (pc' := 19) dX12_sets_18 (by decide) rfl ?_
  refine pa_iald (pc' := 20) dX12_sets_19 z199 rfl (fun _ => ?_)
  rw [nI_clamp (by omega), e5]
  refine pa_iconst (v := 1) (pc' := 21) dX12_sets_20 (by decide) rfl ?_
  refine pa_isub (pc' := 22) dX12_sets_21 rfl rfl ?_
  refine pa_calls (pc' := 25) (kd := 1) (vs := [.inl k, .inl 0, .inl ((nI (cW A)) - 1)]) (rest := []) dX12_sets_22 ml_12_149 (.inl rfl) rfl rfl rfl (fun d' _ => in_v) (fun v g9 hq => ?_)
  obtain ⟨ev, eh⟩ := hq
  subst ev
  rw [eh]
  show zPn N none d mX12_sets (25, _, [.inl (if ((0 : Int32)).toInt ≤ (k).toInt ∧ (k).toInt ≤ (((nI (cW A)) - 1)).toInt then 1 else 0)], h3) _
  rw [k0, pr]
  by_cases hk : 0 ≤ k.toInt ∧ k.toInt ≤ (cW A : Int) - 1
  case neg =>
    rw [if_neg hk]
    refine pa_if_f (pc' := 28) dX12_sets_25 (by decide) (by decide) rfl ?_
    refine pa_aload_n (pc' := 29) dX12_sets_28 rfl rfl ?_
    refine pa_iconst (v := nI 1) (pc' := 30) dX12_sets_29 (by decide) rfl ?_
    refine pa_callv (pc' := 33) (vs := [.inl (nI 1)]) (rest := []) dX12_sets_30 ml_12_170 (by decide) rfl rfl rfl (fun d' _ => (m_no z196)) (fun v g hq => ?_)
    obtain ⟨ev, eh⟩ := hq
    subst ev
    show zPn N none d mX12_sets (33, _, [.inl ((-1))], g) _
    refine pa_iret dX12_sets_33 rfl rfl ?_
    unfold seV
    rw [if_neg (fun q => hk (by omega))]
  rw [if_pos hk]
  have hk : 0 ≤ k.toInt ∧ k.toInt < (cW A : Int) := by omega
  obtain ⟨j, rfl, hj, ej⟩ := nI_ob hk.1 hk.2
  refine pa_if_t (pc' := 34) dX12_sets_25 (by decide) (by decide) ?_
  refine pa_iload_n (pc' := 35) dX12_sets_34 rfl rfl ?_
  refine pa_iconst (v := 0) (pc' := 36) dX12_sets_35 (by decide) rfl ?_
  refine pa_sipush (v := 9999) (pc' := 39) dX12_sets_36 (by decide) rfl ?_
  refine pa_calls (pc' := 42) (kd := 1) (vs := [.inl y, .inl 0, .inl 9999]) (rest := []) dX12_sets_39 ml_12_149 (.inl rfl) rfl rfl rfl (fun d' _ => in_v) (fun v g9 hq => ?_)
  obtain ⟨ev, eh⟩ := hq
  subst ev
  rw [eh]
  show zPn N none d mX12_sets (42, _, [.inl (if ((0 : Int32)).toInt ≤ (y).toInt ∧ (y).toInt ≤ ((9999 : Int32)).toInt then 1 else 0)], h3) _
  rw [k0, show (9999 : Int32).toInt = 9999 by decide]
  by_cases hy : 0 ≤ y.toInt ∧ y.toInt ≤ 9999
  case neg =>
    rw [if_neg hy]
    refine pa_if_f (pc' := 45) dX12_sets_42 (by decide) (by decide) rfl ?_
    refine pa_aload_n (pc' := 46) dX12_sets_45 rfl rfl ?_
    refine pa_iconst (v := nI 2) (pc' := 47) dX12_sets_46 (by decide) rfl ?_
    refine pa_callv (pc' := 50) (vs := [.inl (nI 2)]) (rest := []) dX12_sets_47 ml_12_170 (by decide) rfl rfl rfl (fun d' _ => (m_no z196)) (fun v g hq => ?_)
    obtain ⟨ev, eh⟩ := hq
    subst ev
    show zPn N none d mX12_sets (50, _, [.inl ((-1))], g) _
    refine pa_iret dX12_sets_50 rfl rfl ?_
    unfold seV
    rw [if_neg (fun q => hy q.2)]
  rw [if_pos hy]
  obtain ⟨n, rfl, hn, en⟩ := nI_ob (n := 10000) hy.1 (by omega)
  have V : seV A s (nI w) (nI j) (nI n) = if clB s.2.1 j = true then -2 else nI (gLv (kdA A w) (opA A j) n) := by
    unfold seV
    rw [if_pos ⟨⟨hx, hk⟩, hy⟩, ew, ej, en]
  rw [V]
  refine pa_if_t (pc' := 51) dX12_sets_42 (by decide) (by decide) ?_
  refine pa_aload_n (pc' := 52) dX12_sets_51 rfl rfl ?_
  refine pa_iload_n (pc' := 53) dX12_sets_52 rfl rfl ?_
  refine pa_callv (pc' := 56) (vs := [.inl (nI j)]) (rest := []) dX12_sets_53 ml_12_302 (by decide) rfl rfl rfl (fun d' _ => (M_isClosed B.2.1)) (fun v g9 hq => ?_)
  obtain ⟨ev, eh⟩ := hq
  subst ev
  rw [eh]
  show zPn N none d mX12_sets (56, _, [.inl (if clB s.2.1 j = true then 1 else 0)], h3) _
  by_cases q : clB s.2.1 j = true
  · rw [if_pos q, if_pos q]
    refine pa_if_f (pc' := 59) dX12_sets_56 (by decide) (by decide) rfl ?_
    refine pa_bipush (v := (-2)) (pc' := 61) dX12_sets_59 (by decide) rfl ?_
    refine pa_goto (pc' := 76) dX12_sets_61 (by decide) ?_
    refine pa_iret dX12_sets_76 rfl rfl ?_
    rfl
  · rw [if_neg q, if_neg q]
    refine pa_if_t (pc' := 64) dX12_sets_56 (by decide) (by decide) ?_
    refine pa_aload_n (pc' := 65) dX12_sets_64 rfl rfl ?_
    refine pa_iload_n (pc' := 66) dX12_sets_65 rfl rfl ?_
    refine pa_aload_n (pc' := 67) dX12_sets_66 rfl rfl ?_
    refine pa_iload_n (pc' := 68) dX12_sets_67 rfl rfl ?_
    refine pa_iconst (v := nI 0) (pc' := 69) dX12_sets_68 (by decide) rfl ?_
    refine pa_callv (pc' := 72) (vs := [.inl (nI w), .inl (nI 0)]) (rest := [.inl (nI j), .inr (.inr (some 196))]) dX12_sets_69 ml_12_271 (by decide) rfl rfl rfl (fun d' _ => (M_ofWhale (j := 0) B hw (by decide))) (fun v g9 hq => ?_)
    obtain ⟨ev, eh⟩ := hq
    subst ev
    rw [eh]
    show zPn N none d mX12_sets (72, _, [.inl (kdA A w), .inl (nI j), .inr (.inr (some 196))], h3) _
    refine pa_iload_n (pc' := 73) dX12_sets_72 rfl rfl ?_
    refine pa_callv (pc' := 76) (vs := [.inl (nI j), .inl (kdA A w), .inl (nI n)]) (rest := []) dX12_sets_73 ml_12_334 (by decide) rfl rfl rfl (fun d' _ => (M_setsOutA B.2.1 hj (opA_ok hI hB hT j).1 (by omega))) (fun v g9 hq => ?_)
    obtain ⟨ev, eh⟩ := hq
    subst ev
    rw [eh]
    show zPn N none d mX12_sets (76, _, [.inl (nI (gLv (kdA A w) (opA A j) n))], h3) _
    refine pa_iret dX12_sets_76 rfl rfl ?_
    rfl
end AN3
