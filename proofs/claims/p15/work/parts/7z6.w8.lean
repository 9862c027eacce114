/-! answers: whale, box, sung -/
theorem nI_ob {x : Int32} {n : Nat} (h0 : 0 ≤ x.toInt) (h1 : x.toInt < (n : Int)) : ∃ w : Nat, x = nI w ∧ w < n ∧ x.toInt.toNat = w := ⟨x.toInt.toNat, x_nI h0, by omega, rfl⟩
def whF (A : pA) (s : nS) (w : Nat) : Nat → Int32
  | 0 => kdA A w
  | 1 => nI (s.2.2.1 w)
  | 2 => nI (s.2.2.2.1 w)
  | 3 => nI (nu A (109 + 4 * w))
  | _ => nI (nu A (110 + 4 * w))
def whV (A : pA) (s : nS) (x y : Int32) : Int32 := if (0 ≤ x.toInt ∧ x.toInt < (cH A : Int)) ∧ 0 ≤ y.toInt ∧ y.toInt < 5 then whF A s x.toInt.toNat y.toInt.toNat else -1
def boF (A : pA) (s : nS) (b : Nat) : Nat → Int32
  | 0 => nI (nu A (127 + 4 * b))
  | 1 => nI (nu A (128 + 4 * b))
  | 2 => nI (nu A (129 + 4 * b))
  | 3 => nI (nu A (130 + 4 * b))
  | 4 => sDy (s.2.2.2.2.1 b)
  | _ => sGo (s.2.2.2.2.1 b)
def boV (A : pA) (s : nS) (x y : Int32) : Int32 := if (0 ≤ x.toInt ∧ x.toInt < (cB A : Int)) ∧ 0 ≤ y.toInt ∧ y.toInt < 6 then boF A s x.toInt.toNat y.toInt.toNat else -1
def suV (A : pA) (s : nS) (x y : Int32) : Int32 := if (0 ≤ x.toInt ∧ x.toInt < (cB A : Int)) ∧ 0 ≤ y.toInt ∧ y.toInt < (lB A x.toInt.toNat : Int) then nI (dg ((s.2.2.2.2.2 x.toInt.toNat).getD y.toInt.toNat 0)) else -1
section AN1
variable {t d N c w b : Nat} {h g : zH} {A : pA} {s : nS} {H J : List nS} {x y : Int32} {kk : Bool} {im : Int32}
theorem lPA.hasH (hA : lPA A c h) (hw : w < cH A) : cI A ≠ 0 := by
  rcases hA.2.2.2.2 with ⟨-, e⟩ | ⟨-, z, -⟩
  · rw [e] at hw
    exact absurd hw (Nat.not_lt_zero w)
  · exact z
theorem in_v {x lo hi : Int32} : zPa d mX12_in [.inl x, .inl lo, .inl hi] h (fun v g => v = some (.inl (if lo.toInt ≤ x.toInt ∧ x.toInt ≤ hi.toInt then 1 else 0)) ∧ g = h) := in_ex2.mono (fun v g hq => by
  obtain ⟨e, hq⟩ := hq
  rcases hq with ⟨ev, a, b⟩ | ⟨ev, a⟩
  · rw [if_pos ⟨Int32.le_iff_toInt_le.mp a, Int32.le_iff_toInt_le.mp b⟩]
    exact ⟨ev, e⟩
  · rw [if_neg (fun q => a ⟨Int32.le_iff_toInt_le.mpr q.1, Int32.le_iff_toInt_le.mpr q.2⟩)]
    exact ⟨ev, e⟩)
theorem N_whale11 (z : lZ A c s H J h) (hi : lInv t h) : zPa d mX11_whale [.inr (.inr (some 0)), .inl x, .inl y] h (fun v _ => v = some (.inl (whV A s x y))) := by
  intro N
  have h1 := hi.2.2.2.2.1
  have hA := z.1.1
  have hT := z.1.2.1
  have hB := z.1.2.2
  have hI := hA.1
  have hN := z.2.1.1
  have K := hA.2.2.2.1
  have hc2 : c = 2 ∨ c = 42 := hA.2.1
  obtain ⟨b1, b2, b3, b4, b5⟩ := hI.2.2.1
  have s0 : zsh h 0 = some (11, 16) := zsh_by h1 (by decide +kernel)
  obtain ⟨sc, sc1, sc2, sc4, sc5, scw, scb⟩ := cSh hA.2.1 h1
  obtain ⟨c9, c12, c13, cw, cb⟩ := cRf_of hi.1 hA.2.1
  have S := hi.nw
  obtain ⟨⟨s86, s87, s88, s89, s90, s91⟩, r87, r88, r89, r90, r91⟩ := S.o86
  have r3 := hA.2.2.1
  have r6 := S.2.1
  obtain ⟨n1, n2, n3, n4⟩ := z.2.2.1.1
  show zPn N none d mX11_whale (0, [(0, .inr (.inr (some 0))), (1, .inl x), (2, .inl y)], [], h) _
  refine pa_aload_n (pc' := 1) dX11_whale_0 rfl rfl ?_
  refine pa_iload_n (pc' := 2) dX11_whale_1 rfl rfl ?_
  refine pa_callv (pc' := 5) (vs := [.inl x]) (rest := []) dX11_whale_2 ml_11_121 (by decide) rfl rfl rfl (fun d' _ => (N_isWhale hA h1)) (fun v g9 hq => ?_)
  obtain ⟨ev, eh⟩ := hq
  subst ev
  rw [eh]
  show zPn N none d mX11_whale (5, _, [.inl (if 0 ≤ x.toInt ∧ x.toInt < (cH A:Int) then 1 else 0)], h) _
  by_cases hx : 0 ≤ x.toInt ∧ x.toInt < (cH A : Int)
  case neg =>
    rw [if_neg hx]
    refine pa_if_f (pc' := 8) dX11_whale_5 (by decide) (by decide) rfl ?_
    refine pa_aload_n (pc' := 9) dX11_whale_8 rfl rfl ?_
    refine pa_iconst (v := nI 1) (pc' := 10) dX11_whale_9 (by decide) rfl ?_
    refine pa_callv (pc' := 13) (vs := [.inl (nI 1)]) (rest := []) dX11_whale_10 ml_11_98 (by decide) rfl rfl rfl (fun d' _ => (c_ref s0)) (fun v g hq => ?_)
    obtain ⟨ev, eh⟩ := hq
    subst ev
    show zPn N none d mX11_whale (13, _, [.inl ((-1))], g) _
    refine pa_iret dX11_whale_13 rfl rfl ?_
    unfold whV
    rw [if_neg (fun q => hx q.1)]
  obtain ⟨w, rfl, hw, ew⟩ := nI_ob hx.1 hx.2
  rw [if_pos hx]
  refine pa_if_t (pc' := 14) dX11_whale_5 (by decide) (by decide) ?_
  refine pa_iload_n (pc' := 15) dX11_whale_14 rfl rfl ?_
  by_cases hy : 0 ≤ y.toInt ∧ y.toInt < 5
  case neg =>
    refine pa_switch (pc' := 127) dX11_whale_15 (fun _ => rfl) (fun q => absurd (show y.toInt < 0 ∨ 4 < y.toInt by omega) q) ?_
    refine pa_aload_n (pc' := 128) dX11_whale_127 rfl rfl ?_
    refine pa_iconst (v := nI 1) (pc' := 129) dX11_whale_128 (by decide) rfl ?_
    refine pa_callv (pc' := 132) (vs := [.inl (nI 1)]) (rest := []) dX11_whale_129 ml_11_98 (by decide) rfl rfl rfl (fun d' _ => (c_ref s0)) (fun v g hq => ?_)
    obtain ⟨ev, eh⟩ := hq
    subst ev
    show zPn N none d mX11_whale (132, _, [.inl ((-1))], g) _
    refine pa_iret dX11_whale_132 rfl rfl ?_
    unfold whV
    rw [if_neg (fun q => hy q.2)]
  obtain ⟨q, rfl, hq, eq⟩ := nI_ob (n := 5) hy.1 hy.2
  have V : whV A s (nI w) (nI q) = whF A s w q := by
    unfold whV
    rw [if_pos ⟨hx, hy⟩, ew, eq]
  rw [V]
  clear V eq
  have hq : q = 0 ∨ q = 1 ∨ q = 2 ∨ q = 3 ∨ q = 4 := by omega
  rcases hq with rfl | rfl | rfl | rfl | rfl
  · refine pa_switch (pc' := 48) dX11_whale_15 (fun e => absurd e (by decide)) (fun _ => ⟨33, by decide, rfl⟩) ?_
    have sw := scw w (by omega)
    have rw_ := cw w (by omega)
    have q : h.2.1 (c + 19 + w) 0 = kdA A w := K.wh (j := 0) hT hI hw (by decide)
    refine pa_aload_n (pc' := 49) dX11_whale_48 rfl rfl ?_
    refine pa_aload_n (pc' := 50) dX11_whale_49 rfl rfl ?_
    refine pa_getR (pc' := 53) (n := 16) (r := c) dX11_whale_50 fl_11_23 s0 (by decide) r3 rfl ?_
    refine pa_getR (pc' := 56) (n := 15) (r := c + 4) dX11_whale_53 fl_11_125 sc (by decide) c12 rfl ?_
    refine pa_iload_n (pc' := 57) dX11_whale_56 rfl rfl ?_
    refine pa_aald (pc' := 58) (r := c + 19 + w) dX11_whale_57 sc4 (by decide) (zn_in (by omega) (by omega)) (by rw [nI_clamp (by omega)]; exact rw_) rfl ?_
    refine pa_getI (pc' := 61) (n := 4) (v := kdA A w) dX11_whale_58 fl_11_129 sw (by decide) q rfl ?_
    refine pa_callv (pc' := 64) (vs := [.inl (kdA A w)]) (rest := []) dX11_whale_61 ml_11_112 (by decide) rfl rfl rfl (fun d' _ => (c_gra s0)) (fun v g hq => ?_)
    obtain ⟨ev, eh⟩ := hq
    subst ev
    show zPn N none d mX11_whale (64, _, [.inl ((kdA A w))], g) _
    refine pa_iret dX11_whale_64 rfl rfl ?_
    rfl
  · refine pa_switch (pc' := 65) dX11_whale_15 (fun e => absurd e (by decide)) (fun _ => ⟨50, by decide, rfl⟩) ?_
    have q : h.2.1 87 w = nI (s.2.2.1 w) := (n3 w hw).1
    refine pa_aload_n (pc' := 66) dX11_whale_65 rfl rfl ?_
    refine pa_aload_n (pc' := 67) dX11_whale_66 rfl rfl ?_
    refine pa_getR (pc' := 70) (n := 16) (r := 86) dX11_whale_67 fl_11_42 s0 (by decide) r6 rfl ?_
    refine pa_getR (pc' := 73) (n := 7) (r := 87) dX11_whale_70 fl_11_134 s86 (by decide) r87 rfl ?_
    refine pa_iload_n (pc' := 74) dX11_whale_73 rfl rfl ?_
    refine pa_iald (pc' := 75) dX11_whale_74 s87 rfl (fun _ => ?_)
    rw [nI_clamp (by omega), q]
    refine pa_callv (pc' := 78) (vs := [.inl (nI (s.2.2.1 w))]) (rest := []) dX11_whale_75 ml_11_112 (by decide) rfl rfl rfl (fun d' _ => (c_gra s0)) (fun v g hq => ?_)
    obtain ⟨ev, eh⟩ := hq
    subst ev
    show zPn N none d mX11_whale (78, _, [.inl (nI ((s.2.2.1 w)))], g) _
    refine pa_iret dX11_whale_78 rfl rfl ?_
    rfl
  · refine pa_switch (pc' := 79) dX11_whale_15 (fun e => absurd e (by decide)) (fun _ => ⟨64, by decide, rfl⟩) ?_
    have q : h.2.1 88 w = nI (s.2.2.2.1 w) := (n3 w hw).2
    refine pa_aload_n (pc' := 80) dX11_whale_79 rfl rfl ?_
    refine pa_aload_n (pc' := 81) dX11_whale_80 rfl rfl ?_
    refine pa_getR (pc' := 84) (n := 16) (r := 86) dX11_whale_81 fl_11_42 s0 (by decide) r6 rfl ?_
    refine pa_getR (pc' := 87) (n := 7) (r := 88) dX11_whale_84 fl_11_138 s86 (by decide) r88 rfl ?_
    refine pa_iload_n (pc' := 88) dX11_whale_87 rfl rfl ?_
    refine pa_iald (pc' := 89) dX11_whale_88 s88 rfl (fun _ => ?_)
    rw [nI_clamp (by omega), q]
    refine pa_callv (pc' := 92) (vs := [.inl (nI (s.2.2.2.1 w))]) (rest := []) dX11_whale_89 ml_11_112 (by decide) rfl rfl rfl (fun d' _ => (c_gra s0)) (fun v g hq => ?_)
    obtain ⟨ev, eh⟩ := hq
    subst ev
    show zPn N none d mX11_whale (92, _, [.inl (nI ((s.2.2.2.1 w)))], g) _
    refine pa_iret dX11_whale_92 rfl rfl ?_
    rfl
  · refine pa_switch (pc' := 93) dX11_whale_15 (fun e => absurd e (by decide)) (fun _ => ⟨78, by decide, rfl⟩) ?_
    have sw := scw w (by omega)
    have rw_ := cw w (by omega)
    have q : h.2.1 (c + 19 + w) 2 = nI (nu A (109 + 4 * w)) := by rw [K.wh hT hI hw (by decide), (num_whale hI hB hT hw).2.2.2.2 2 (by decide), show 107 + 4 * w + 2 = 109 + 4 * w by omega]
    refine pa_aload_n (pc' := 94) dX11_whale_93 rfl rfl ?_
    refine pa_aload_n (pc' := 95) dX11_whale_94 rfl rfl ?_
    refine pa_getR (pc' := 98) (n := 16) (r := c) dX11_whale_95 fl_11_23 s0 (by decide) r3 rfl ?_
    refine pa_getR (pc' := 101) (n := 15) (r := c + 4) dX11_whale_98 fl_11_125 sc (by decide) c12 rfl ?_
    refine pa_iload_n (pc' := 102) dX11_whale_101 rfl rfl ?_
    refine pa_aald (pc' := 103) (r := c + 19 + w) dX11_whale_102 sc4 (by decide) (zn_in (by omega) (by omega)) (by rw [nI_clamp (by omega)]; exact rw_) rfl ?_
    refine pa_getI (pc' := 106) (n := 4) (v := nI (nu A (109 + 4 * w))) dX11_whale_103 fl_11_141 sw (by decide) q rfl ?_
    refine pa_callv (pc' := 109) (vs := [.inl (nI (nu A (109 + 4 * w)))]) (rest := []) dX11_whale_106 ml_11_112 (by decide) rfl rfl rfl (fun d' _ => (c_gra s0)) (fun v g hq => ?_)
    obtain ⟨ev, eh⟩ := hq
    subst ev
    show zPn N none d mX11_whale (109, _, [.inl (nI ((nu A (109 + 4 * w))))], g) _
    refine pa_iret dX11_whale_109 rfl rfl ?_
    rfl
  · refine pa_switch (pc' := 110) dX11_whale_15 (fun e => absurd e (by decide)) (fun _ => ⟨95, by decide, rfl⟩) ?_
    have sw := scw w (by omega)
    have rw_ := cw w (by omega)
    have q : h.2.1 (c + 19 + w) 3 = nI (nu A (110 + 4 * w)) := by rw [K.wh hT hI hw (by decide), (num_whale hI hB hT hw).2.2.2.2 3 (by decide), show 107 + 4 * w + 3 = 110 + 4 * w by omega]
    refine pa_aload_n (pc' := 111) dX11_whale_110 rfl rfl ?_
    refine pa_aload_n (pc' := 112) dX11_whale_111 rfl rfl ?_
    refine pa_getR (pc' := 115) (n := 16) (r := c) dX11_whale_112 fl_11_23 s0 (by decide) r3 rfl ?_
    refine pa_getR (pc' := 118) (n := 15) (r := c + 4) dX11_whale_115 fl_11_125 sc (by decide) c12 rfl ?_
    refine pa_iload_n (pc' := 119) dX11_whale_118 rfl rfl ?_
    refine pa_aald (pc' := 120) (r := c + 19 + w) dX11_whale_119 sc4 (by decide) (zn_in (by omega) (by omega)) (by rw [nI_clamp (by omega)]; exact rw_) rfl ?_
    refine pa_getI (pc' := 123) (n := 4) (v := nI (nu A (110 + 4 * w))) dX11_whale_120 fl_11_144 sw (by decide) q rfl ?_
    refine pa_callv (pc' := 126) (vs := [.inl (nI (nu A (110 + 4 * w)))]) (rest := []) dX11_whale_123 ml_11_112 (by decide) rfl rfl rfl (fun d' _ => (c_gra s0)) (fun v g hq => ?_)
    obtain ⟨ev, eh⟩ := hq
    subst ev
    show zPn N none d mX11_whale (126, _, [.inl (nI ((nu A (110 + 4 * w))))], g) _
    refine pa_iret dX11_whale_126 rfl rfl ?_
    rfl
theorem N_box11 (z : lZ A c s H J h) (hi : lInv t h) : zPa d mX11_box [.inr (.inr (some 0)), .inl x, .inl y] h (fun v _ => v = some (.inl (boV A s x y))) := by
  intro N
  have h1 := hi.2.2.2.2.1
  have hA := z.1.1
  have hT := z.1.2.1
  have hB := z.1.2.2
  have hI := hA.1
  have hN := z.2.1.1
  have K := hA.2.2.2.1
  have hc2 : c = 2 ∨ c = 42 := hA.2.1
  obtain ⟨b1, b2, b3, b4, b5⟩ := hI.2.2.1
  have s0 : zsh h 0 = some (11, 16) := zsh_by h1 (by decide +kernel)
  obtain ⟨sc, sc1, sc2, sc4, sc5, scw, scb⟩ := cSh hA.2.1 h1
  obtain ⟨c9, c12, c13, cw, cb⟩ := cRf_of hi.1 hA.2.1
  have S := hi.nw
  obtain ⟨⟨s86, s87, s88, s89, s90, s91⟩, r87, r88, r89, r90, r91⟩ := S.o86
  have r3 := hA.2.2.1
  have r6 := S.2.1
  obtain ⟨n1, n2, n3, n4⟩ := z.2.2.1.1
  show zPn N none d mX11_box (0, [(0, .inr (.inr (some 0))), (1, .inl x), (2, .inl y)], [], h) _
  refine pa_aload_n (pc' := 1) dX11_box_0 rfl rfl ?_
  refine pa_iload_n (pc' := 2) dX11_box_1 rfl rfl ?_
  refine pa_callv (pc' := 5) (vs := [.inl x]) (rest := []) dX11_box_2 ml_11_147 (by decide) rfl rfl rfl (fun d' _ => (N_isBox hA h1)) (fun v g9 hq => ?_)
  obtain ⟨ev, eh⟩ := hq
  subst ev
  rw [eh]
  show zPn N none d mX11_box (5, _, [.inl (if 0 ≤ x.toInt ∧ x.toInt < (cB A:Int) then 1 else 0)], h) _
  by_cases hx : 0 ≤ x.toInt ∧ x.toInt < (cB A : Int)
  case neg =>
    rw [if_neg hx]
    refine pa_if_f (pc' := 8) dX11_box_5 (by decide) (by decide) rfl ?_
    refine pa_aload_n (pc' := 9) dX11_box_8 rfl rfl ?_
    refine pa_iconst (v := nI 1) (pc' := 10) dX11_box_9 (by decide) rfl ?_
    refine pa_callv (pc' := 13) (vs := [.inl (nI 1)]) (rest := []) dX11_box_10 ml_11_98 (by decide) rfl rfl rfl (fun d' _ => (c_ref s0)) (fun v g hq => ?_)
    obtain ⟨ev, eh⟩ := hq
    subst ev
    show zPn N none d mX11_box (13, _, [.inl ((-1))], g) _
    refine pa_iret dX11_box_13 rfl rfl ?_
    unfold boV
    rw [if_neg (fun q => hx q.1)]
  obtain ⟨w, rfl, hw, ew⟩ := nI_ob hx.1 hx.2
  rw [if_pos hx]
  refine pa_if_t (pc' := 14) dX11_box_5 (by decide) (by decide) ?_
  refine pa_iload_n (pc' := 15) dX11_box_14 rfl rfl ?_
  by_cases hy : 0 ≤ y.toInt ∧ y.toInt < 6
  case neg =>
    refine pa_switch (pc' := 148) dX11_box_15 (fun _ => rfl) (fun q => absurd (show y.toInt < 0 ∨ 5 < y.toInt by omega) q) ?_
    refine pa_aload_n (pc' := 149) dX11_box_148 rfl rfl ?_
    refine pa_iconst (v := nI 1) (pc' := 150) dX11_box_149 (by decide) rfl ?_
    refine pa_callv (pc' := 153) (vs := [.inl (nI 1)]) (rest := []) dX11_box_150 ml_11_98 (by decide) rfl rfl rfl (fun d' _ => (c_ref s0)) (fun v g hq => ?_)
    obtain ⟨ev, eh⟩ := hq
    subst ev
    show zPn N none d mX11_box (153, _, [.inl ((-1))], g) _
    refine pa_iret dX11_box_153 rfl rfl ?_
    unfold boV
    rw [if_neg (fun q => hy q.2)]
  obtain ⟨q, rfl, hq, eq⟩ := nI_ob (n := 6) hy.1 hy.2
  have V : boV A s (nI w) (nI q) = boF A s w q := by
    unfold boV
    rw [if_pos ⟨hx, hy⟩, ew, eq]
  rw [V]
  clear V eq
  have hq : q = 0 ∨ q = 1 ∨ q = 2 ∨ q = 3 ∨ q = 4 ∨ q = 5 := by omega
  rcases hq with rfl | rfl | rfl | rfl | rfl | rfl
  · refine pa_switch (pc' := 52) dX11_box_15 (fun e => absurd e (by decide)) (fun _ => ⟨37, by decide, rfl⟩) ?_
    have sb := scb w (by omega)
    have rb := cb w (by omega)
    have q : h.2.1 (c + 24 + w) 0 = nI (nu A (127 + 4 * w)) := by
      rw [K.bo hT hI hw (by decide), (num_box hI hB hT hw).2.2.2.2 0 (by decide)]
      exact congrArg (fun v => nI (nu A v)) (by omega)
    refine pa_aload_n (pc' := 53) dX11_box_52 rfl rfl ?_
    refine pa_aload_n (pc' := 54) dX11_box_53 rfl rfl ?_
    refine pa_getR (pc' := 57) (n := 16) (r := c) dX11_box_54 fl_11_23 s0 (by decide) r3 rfl ?_
    refine pa_getR (pc' := 60) (n := 15) (r := c + 5) dX11_box_57 fl_11_150 sc (by decide) c13 rfl ?_
    refine pa_iload_n (pc' := 61) dX11_box_60 rfl rfl ?_
    refine pa_aald (pc' := 62) (r := c + 24 + w) dX11_box_61 sc5 (by decide) (zn_in (by omega) (by omega)) (by rw [nI_clamp (by omega)]; exact rb) rfl ?_
    refine pa_getI (pc' := 65) (n := 4) (v := nI (nu A (127 + 4 * w))) dX11_box_62 fl_11_154 sb (by decide) q rfl ?_
    refine pa_callv (pc' := 68) (vs := [.inl (nI (nu A (127 + 4 * w)))]) (rest := []) dX11_box_65 ml_11_112 (by decide) rfl rfl rfl (fun d' _ => (c_gra s0)) (fun v g hq => ?_)
    obtain ⟨ev, eh⟩ := hq
    subst ev
    show zPn N none d mX11_box (68, _, [.inl (nI ((nu A (127 + 4 * w))))], g) _
    refine pa_iret dX11_box_68 rfl rfl ?_
    rfl
  · refine pa_switch (pc' := 69) dX11_box_15 (fun e => absurd e (by decide)) (fun _ => ⟨54, by decide, rfl⟩) ?_
    have sb := scb w (by omega)
    have rb := cb w (by omega)
    have q : h.2.1 (c + 24 + w) 1 = nI (nu A (128 + 4 * w)) := by
      rw [K.bo hT hI hw (by decide), (num_box hI hB hT hw).2.2.2.2 1 (by decide)]
      exact congrArg (fun v => nI (nu A v)) (by omega)
    refine pa_aload_n (pc' := 70) dX11_box_69 rfl rfl ?_
    refine pa_aload_n (pc' := 71) dX11_box_70 rfl rfl ?_
    refine pa_getR (pc' := 74) (n := 16) (r := c) dX11_box_71 fl_11_23 s0 (by decide) r3 rfl ?_
    refine pa_getR (pc' := 77) (n := 15) (r := c + 5) dX11_box_74 fl_11_150 sc (by decide) c13 rfl ?_
    refine pa_iload_n (pc' := 78) dX11_box_77 rfl rfl ?_
    refine pa_aald (pc' := 79) (r := c + 24 + w) dX11_box_78 sc5 (by decide) (zn_in (by omega) (by omega)) (by rw [nI_clamp (by omega)]; exact rb) rfl ?_
    refine pa_getI (pc' := 82) (n := 4) (v := nI (nu A (128 + 4 * w))) dX11_box_79 fl_11_159 sb (by decide) q rfl ?_
    refine pa_callv (pc' := 85) (vs := [.inl (nI (nu A (128 + 4 * w)))]) (rest := []) dX11_box_82 ml_11_112 (by decide) rfl rfl rfl (fun d' _ => (c_gra s0)) (fun v g hq => ?_)
    obtain ⟨ev, eh⟩ := hq
    subst ev
    show zPn N none d mX11_box (85, _, [.inl (nI ((nu A (128 + 4 * w))))], g) _
    refine pa_iret dX11_box_85 rfl rfl ?_
    rfl
  · refine pa_switch (pc' := 86) dX11_box_15 (fun e => absurd e (by decide)) (fun _ => ⟨71, by decide, rfl⟩) ?_
    have sb := scb w (by omega)
    have rb := cb w (by omega)
    have q : h.2.1 (c + 24 + w) 2 = nI (nu A (129 + 4 * w)) := by
      rw [K.bo hT hI hw (by decide), (num_box hI hB hT hw).2.2.2.2 2 (by decide)]
      exact congrArg (fun v => nI (nu A v)) (by omega)
    refine pa_aload_n (pc' := 87) dX11_box_86 rfl rfl ?_
    refine pa_aload_n (pc' := 88) dX11_box_87 rfl rfl ?_
    refine pa_getR (pc' := 91) (n := 16) (r := c) dX11_box_88 fl_11_23 s0 (by decide) r3 rfl ?_
    refine pa_getR (pc' := 94) (n := 15) (r := c + 5) dX11_box_91 fl_11_150 sc (by decide) c13 rfl ?_
    refine pa_iload_n (pc' := 95) dX11_box_94 rfl rfl ?_
    refine pa_aald (pc' := 96) (r := c + 24 + w) dX11_box_95 sc5 (by decide) (zn_in (by omega) (by omega)) (by rw [nI_clamp (by omega)]; exact rb) rfl ?_
    refine pa_getI (pc' := 99) (n := 4) (v := nI (nu A (129 + 4 * w))) dX11_box_96 fl_11_162 sb (by decide) q rfl ?_
    refine pa_callv (pc' := 102) (vs := [.inl (nI (nu A (129 + 4 * w)))]) (rest := []) dX11_box_99 ml_11_112 (by decide) rfl rfl rfl (fun d' _ => (c_gra s0)) (fun v g hq => ?_)
    obtain ⟨ev, eh⟩ := hq
    subst ev
    show zPn N none d mX11_box (102, _, [.inl (nI ((nu A (129 + 4 * w))))], g) _
    refine pa_iret dX11_box_102 rfl rfl ?_
    rfl
  · refine pa_switch (pc' := 103) dX11_box_15 (fun e => absurd e (by decide)) (fun _ => ⟨88, by decide, rfl⟩) ?_
    have sb := scb w (by omega)
    have rb := cb w (by omega)
    have q : h.2.1 (c + 24 + w) 3 = nI (nu A (130 + 4 * w)) := by
      rw [K.bo hT hI hw (by decide), (num_box hI hB hT hw).2.2.2.2 3 (by decide)]
      exact congrArg (fun v => nI (nu A v)) (by omega)
    refine pa_aload_n (pc' := 104) dX11_box_103 rfl rfl ?_
    refine pa_aload_n (pc' := 105) dX11_box_104 rfl rfl ?_
    refine pa_getR (pc' := 108) (n := 16) (r := c) dX11_box_105 fl_11_23 s0 (by decide) r3 rfl ?_
    refine pa_getR (pc' := 111) (n := 15) (r := c + 5) dX11_box_108 fl_11_150 sc (by decide) c13 rfl ?_
    refine pa_iload_n (pc' := 112) dX11_box_111 rfl rfl ?_
    refine pa_aald (pc' := 113) (r := c + 24 + w) dX11_box_112 sc5 (by decide) (zn_in (by omega) (by omega)) (by rw [nI_clamp (by omega)]; exact rb) rfl ?_
    refine pa_getI (pc' := 116) (n := 4) (v := nI (nu A (130 + 4 * w))) dX11_box_113 fl_11_165 sb (by decide) q rfl ?_
    refine pa_callv (pc' := 119) (vs := [.inl (nI (nu A (130 + 4 * w)))]) (rest := []) dX11_box_116 ml_11_112 (by decide) rfl rfl rfl (fun d' _ => (c_gra s0)) (fun v g hq => ?_)
    obtain ⟨ev, eh⟩ := hq
    subst ev
    show zPn N none d mX11_box (119, _, [.inl (nI ((nu A (130 + 4 * w))))], g) _
    refine pa_iret dX11_box_119 rfl rfl ?_
    rfl
  · refine pa_switch (pc' := 120) dX11_box_15 (fun e => absurd e (by decide)) (fun _ => ⟨105, by decide, rfl⟩) ?_
    have q : h.2.1 89 w = sDy (s.2.2.2.2.1 w) := (n4 w hw).1
    refine pa_aload_n (pc' := 121) dX11_box_120 rfl rfl ?_
    refine pa_aload_n (pc' := 122) dX11_box_121 rfl rfl ?_
    refine pa_getR (pc' := 125) (n := 16) (r := 86) dX11_box_122 fl_11_42 s0 (by decide) r6 rfl ?_
    refine pa_getR (pc' := 128) (n := 7) (r := 89) dX11_box_125 fl_11_168 s86 (by decide) r89 rfl ?_
    refine pa_iload_n (pc' := 129) dX11_box_128 rfl rfl ?_
    refine pa_iald (pc' := 130) dX11_box_129 s89 rfl (fun _ => ?_)
    rw [nI_clamp (by omega), q]
    refine pa_callv (pc' := 133) (vs := [.inl (sDy (s.2.2.2.2.1 w))]) (rest := []) dX11_box_130 ml_11_112 (by decide) rfl rfl rfl (fun d' _ => (c_gra s0)) (fun v g hq => ?_)
    obtain ⟨ev, eh⟩ := hq
    subst ev
    show zPn N none d mX11_box (133, _, [.inl ((sDy (s.2.2.2.2.1 w)))], g) _
    refine pa_iret dX11_box_133 rfl rfl ?_
    rfl
  · refine pa_switch (pc' := 134) dX11_box_15 (fun e => absurd e (by decide)) (fun _ => ⟨119, by decide, rfl⟩) ?_
    have q : h.2.1 90 w = sGo (s.2.2.2.2.1 w) := (n4 w hw).2.1
    refine pa_aload_n (pc' := 135) dX11_box_134 rfl rfl ?_
    refine pa_aload_n (pc' := 136) dX11_box_135 rfl rfl ?_
    refine pa_getR (pc' := 139) (n := 16) (r := 86) dX11_box_136 fl_11_42 s0 (by decide) r6 rfl ?_
    refine pa_getR (pc' := 142) (n := 7) (r := 90) dX11_box_139 fl_11_171 s86 (by decide) r90 rfl ?_
    refine pa_iload_n (pc' := 143) dX11_box_142 rfl rfl ?_
    refine pa_iald (pc' := 144) dX11_box_143 s90 rfl (fun _ => ?_)
    rw [nI_clamp (by omega), q]
    refine pa_callv (pc' := 147) (vs := [.inl (sGo (s.2.2.2.2.1 w))]) (rest := []) dX11_box_144 ml_11_112 (by decide) rfl rfl rfl (fun d' _ => (c_gra s0)) (fun v g hq => ?_)
    obtain ⟨ev, eh⟩ := hq
    subst ev
    show zPn N none d mX11_box (147, _, [.inl ((sGo (s.2.2.2.2.1 w)))], g) _
    refine pa_iret dX11_box_147 rfl rfl ?_
    rfl
theorem N_whale12 (z : lZ A c s H J g) (m : lMid kk im t g h) : zPa d mX12_whale [.inr (.inr (some 196)), .inl x, .inl y] h (fun v _ => v = some (.inl (whV A s x y))) := by
  intro N
  have s196 : zsh h 196 = some (12, 39) := zsh_by m.2.1.2.2.2 (by decide +kernel)
  generalize eg : zsI (zsI h 196 0 0) 196 11 0 = h2
  have e2 : ∀ a k, a ≠ 196 → h2.2.1 a k = h.2.1 a k := fun a k ha => by rw [← eg, zsI_no (by omega), zsI_no (by omega)]
  have e3 : ∀ k, k ≠ 0 → k ≠ 11 → h2.2.1 196 k = h.2.1 196 k := fun k w1 w2 => by rw [← eg, zsI_no (by omega), zsI_no (by omega)]
  have h1 : h2.1 = hh_487.1 := by rw [← eg]; exact m.2.1.2.2.2
  have hA : lPA A c h2 := by rw [← eg]; exact (m.pa z.1.1).gd
  have B : cI A ≠ 0 → bgM A s h2 := fun ne => by rw [← eg]; exact (z.bm m ne).gd
  have er : h2.2.2.2.1 = h.2.2.2.1 := by rw [← eg]; rfl
  have q15 : h2.2.2.2.1 196 15 = some 199 := by rw [er]; exact m.r15
  have q17 : h2.2.2.2.1 196 17 = some 201 := by rw [er]; exact m.mw.2.1
  have z196 : zsh h2 196 = some (12, 39) := zsh_by h1 (by decide +kernel)
  have z199 : zsh h2 199 = some (14, 363) := zsh_by h1 (by decide +kernel)
  have z201 : zsh h2 201 = some (14, 76) := zsh_by h1 (by decide +kernel)
  have M : nMo A s 201 0 h2 := (z.lm m).1.1.fr (fun k => e2 _ _ (by decide))
  have hT := z.1.2.1
  have hB := z.1.2.2
  have hI := z.1.1.1
  have hN := z.2.1.1
  have k0 : (0 : Int32).toInt = 0 := by decide
  obtain ⟨b1, b2, b3, b4, b5⟩ := hI.2.2.1
  show zPn N none d mX12_whale (0, [(0, .inr (.inr (some 196))), (1, .inl x), (2, .inl y)], [], h) _
  refine pa_aload_n (pc' := 1) dX12_whale_0 rfl rfl ?_
  refine pa_callv (pc' := 4) (vs := []) (rest := []) dX12_whale_1 ml_12_167 (by decide) rfl rfl rfl (fun d' _ => (m_good s196)) (fun v h3 hq => ?_)
  obtain ⟨ev, eh⟩ := hq
  subst ev
  show zPn N none d mX12_whale (4, _, [], h3) _
  rw [eg] at eh
  subst eh
  refine pa_aload_n (pc' := 5) dX12_whale_4 rfl rfl ?_
  refine pa_iload_n (pc' := 6) dX12_whale_5 rfl rfl ?_
  refine pa_callv (pc' := 9) (vs := [.inl x]) (rest := []) dX12_whale_6 ml_12_268 (by decide) rfl rfl rfl (fun d' _ => (M_isWhale hA q15 h1)) (fun v g9 hq => ?_)
  obtain ⟨ev, eh⟩ := hq
  subst ev
  rw [eh]
  show zPn N none d mX12_whale (9, _, [.inl (if 0 ≤ x.toInt ∧ x.toInt < (cH A:Int) then 1 else 0)], h3) _
  by_cases hx : 0 ≤ x.toInt ∧ x.toInt < (cH A : Int)
  case neg =>
    rw [if_neg hx]
    refine pa_if_t (pc' := 21) dX12_whale_9 (by decide) (by decide) ?_
    refine pa_aload_n (pc' := 22) dX12_whale_21 rfl rfl ?_
    refine pa_iconst (v := nI 1) (pc' := 23) dX12_whale_22 (by decide) rfl ?_
    refine pa_callv (pc' := 26) (vs := [.inl (nI 1)]) (rest := []) dX12_whale_23 ml_12_170 (by decide) rfl rfl rfl (fun d' _ => (m_no z196)) (fun v g hq => ?_)
    obtain ⟨ev, eh⟩ := hq
    subst ev
    show zPn N none d mX12_whale (26, _, [.inl ((-1))], g) _
    refine pa_iret dX12_whale_26 rfl rfl ?_
    unfold whV
    rw [if_neg (fun q => hx q.1)]
  obtain ⟨w, rfl, hw, ew⟩ := nI_ob hx.1 hx.2
  rw [if_pos hx]
  refine pa_if_f (pc' := 12) dX12_whale_9 (by decide) (by decide) rfl ?_
  refine pa_iload_n (pc' := 13) dX12_whale_12 rfl rfl ?_
  refine pa_iconst (v := 0) (pc' := 14) dX12_whale_13 (by decide) rfl ?_
  refine pa_iconst (v := 4) (pc' := 15) dX12_whale_14 (by decide) rfl ?_
  refine pa_calls (pc' := 18) (kd := 1) (vs := [.inl y, .inl 0, .inl 4]) (rest := []) dX12_whale_15 ml_12_149 (.inl rfl) rfl rfl rfl (fun d' _ => in_v) (fun v g9 hq => ?_)
  obtain ⟨ev, eh⟩ := hq
  subst ev
  rw [eh]
  show zPn N none d mX12_whale (18, _, [.inl (if ((0 : Int32)).toInt ≤ (y).toInt ∧ (y).toInt ≤ ((4 : Int32)).toInt then 1 else 0)], h3) _
  rw [k0, show (4 : Int32).toInt = 4 by decide]
  by_cases hy : 0 ≤ y.toInt ∧ y.toInt ≤ 4
  case neg =>
    rw [if_neg hy]
    refine pa_if_f (pc' := 21) dX12_whale_18 (by decide) (by decide) rfl ?_
    refine pa_aload_n (pc' := 22) dX12_whale_21 rfl rfl ?_
    refine pa_iconst (v := nI 1) (pc' := 23) dX12_whale_22 (by decide) rfl ?_
    refine pa_callv (pc' := 26) (vs := [.inl (nI 1)]) (rest := []) dX12_whale_23 ml_12_170 (by decide) rfl rfl rfl (fun d' _ => (m_no z196)) (fun v g hq => ?_)
    obtain ⟨ev, eh⟩ := hq
    subst ev
    show zPn N none d mX12_whale (26, _, [.inl ((-1))], g) _
    refine pa_iret dX12_whale_26 rfl rfl ?_
    unfold whV
    rw [if_neg (fun q => hy (by omega))]
  rw [if_pos hy]
  have hy : 0 ≤ y.toInt ∧ y.toInt < 5 := by omega
  refine pa_if_t (pc' := 27) dX12_whale_18 (by decide) (by decide) ?_
  obtain ⟨q, rfl, hq, eq⟩ := nI_ob (n := 5) hy.1 hy.2
  have V : whV A s (nI w) (nI q) = whF A s w q := by
    unfold whV
    rw [if_pos ⟨hx, hy⟩, ew, eq]
  rw [V]
  clear V eq
  have B := B (hA.hasH hw)
  refine pa_iload_n (pc' := 28) dX12_whale_27 rfl rfl ?_
  have hq : q = 0 ∨ q = 1 ∨ q = 2 ∨ q = 3 ∨ q = 4 := by omega
  rcases hq with rfl | rfl | rfl | rfl | rfl
  · refine pa_switch (pc' := 56) dX12_whale_28 (fun e => absurd e (by decide)) (fun _ => ⟨28, by decide, rfl⟩) ?_
    refine pa_aload_n (pc' := 57) dX12_whale_56 rfl rfl ?_
    refine pa_iload_n (pc' := 58) dX12_whale_57 rfl rfl ?_
    refine pa_iconst (v := nI 0) (pc' := 59) dX12_whale_58 (by decide) rfl ?_
    refine pa_callv (pc' := 62) (vs := [.inl (nI w), .inl (nI 0)]) (rest := []) dX12_whale_59 ml_12_271 (by decide) rfl rfl rfl (fun d' _ => (M_ofWhale B hw (by decide))) (fun v g9 hq => ?_)
    obtain ⟨ev, eh⟩ := hq
    subst ev
    rw [eh]
    show zPn N none d mX12_whale (62, _, [.inl (vA A (107 + 4 * w + 0))], h3) _
    refine pa_iret dX12_whale_62 rfl rfl ?_
    rfl
  · refine pa_switch (pc' := 63) dX12_whale_28 (fun e => absurd e (by decide)) (fun _ => ⟨35, by decide, rfl⟩) ?_
    have q : h3.2.1 201 (2 + w) = nI (s.2.2.1 w) := by rw [← (M.2.2.1 w hw).1, Nat.zero_add]
    refine pa_aload_n (pc' := 64) dX12_whale_63 rfl rfl ?_
    refine pa_getR (pc' := 67) (n := 39) (r := 201) dX12_whale_64 fl_12_26 z196 (by decide) q17 rfl ?_
    refine pa_iconst (v := nI 2) (pc' := 68) dX12_whale_67 (by decide) rfl ?_
    refine pa_iload_n (pc' := 69) dX12_whale_68 rfl rfl ?_
    refine pa_iadd (pc' := 70) (v := nI (2 + w)) dX12_whale_69 (nI_add _ _) rfl ?_
    refine pa_iald (pc' := 71) dX12_whale_70 z201 rfl (fun _ => ?_)
    rw [nI_clamp (by omega), q]
    refine pa_iret dX12_whale_71 rfl rfl ?_
    rfl
  · refine pa_switch (pc' := 72) dX12_whale_28 (fun e => absurd e (by decide)) (fun _ => ⟨44, by decide, rfl⟩) ?_
    have q : h3.2.1 201 (7 + w) = nI (s.2.2.2.1 w) := by rw [← (M.2.2.1 w hw).2, Nat.zero_add]
    refine pa_aload_n (pc' := 73) dX12_whale_72 rfl rfl ?_
    refine pa_getR (pc' := 76) (n := 39) (r := 201) dX12_whale_73 fl_12_26 z196 (by decide) q17 rfl ?_
    refine pa_bipush (v := nI 7) (pc' := 78) dX12_whale_76 (by decide) rfl ?_
    refine pa_iload_n (pc' := 79) dX12_whale_78 rfl rfl ?_
    refine pa_iadd (pc' := 80) (v := nI (7 + w)) dX12_whale_79 (nI_add _ _) rfl ?_
    refine pa_iald (pc' := 81) dX12_whale_80 z201 rfl (fun _ => ?_)
    rw [nI_clamp (by omega), q]
    refine pa_iret dX12_whale_81 rfl rfl ?_
    rfl
  · refine pa_switch (pc' := 82) dX12_whale_28 (fun _ => rfl) (fun e => absurd (by decide) e) ?_
    refine pa_aload_n (pc' := 83) dX12_whale_82 rfl rfl ?_
    refine pa_iload_n (pc' := 84) dX12_whale_83 rfl rfl ?_
    refine pa_iload_n (pc' := 85) dX12_whale_84 rfl rfl ?_
    refine pa_iconst (v := nI 1) (pc' := 86) dX12_whale_85 (by decide) rfl ?_
    refine pa_isub (pc' := 87) (v := nI (3 - 1)) dX12_whale_86 (nI_sub (by omega)) rfl ?_
    refine pa_callv (pc' := 90) (vs := [.inl (nI w), .inl (nI (3 - 1))]) (rest := []) dX12_whale_87 ml_12_271 (by decide) rfl rfl rfl (fun d' _ => (M_ofWhale (j := 2) B hw (by decide))) (fun v g9 hq => ?_)
    obtain ⟨ev, eh⟩ := hq
    subst ev
    rw [eh]
    show zPn N none d mX12_whale (90, _, [.inl (vA A (107 + 4 * w + 2))], h3) _
    refine pa_iret dX12_whale_90 rfl rfl ?_
    rw [(num_whale hI hB hT hw).2.2.2.2 2 (by decide), show 107 + 4 * w + 2 = 109 + 4 * w by omega]
    rfl
  · refine pa_switch (pc' := 82) dX12_whale_28 (fun _ => rfl) (fun e => absurd (by decide) e) ?_
    refine pa_aload_n (pc' := 83) dX12_whale_82 rfl rfl ?_
    refine pa_iload_n (pc' := 84) dX12_whale_83 rfl rfl ?_
    refine pa_iload_n (pc' := 85) dX12_whale_84 rfl rfl ?_
    refine pa_iconst (v := nI 1) (pc' := 86) dX12_whale_85 (by decide) rfl ?_
    refine pa_isub (pc' := 87) (v := nI (4 - 1)) dX12_whale_86 (nI_sub (by omega)) rfl ?_
    refine pa_callv (pc' := 90) (vs := [.inl (nI w), .inl (nI (4 - 1))]) (rest := []) dX12_whale_87 ml_12_271 (by decide) rfl rfl rfl (fun d' _ => (M_ofWhale (j := 3) B hw (by decide))) (fun v g9 hq => ?_)
    obtain ⟨ev, eh⟩ := hq
    subst ev
    rw [eh]
    show zPn N none d mX12_whale (90, _, [.inl (vA A (107 + 4 * w + 3))], h3) _
    refine pa_iret dX12_whale_90 rfl rfl ?_
    rw [(num_whale hI hB hT hw).2.2.2.2 3 (by decide), show 107 + 4 * w + 3 = 110 + 4 * w by omega]
    rfl
theorem N_box12 (z : lZ A c s H J g) (m : lMid kk im t g h) : zPa d mX12_box [.inr (.inr (some 196)), .inl x, .inl y] h (fun v _ => v = some (.inl (boV A s x y))) := by
  intro N
  have s196 : zsh h 196 = some (12, 39) := zsh_by m.2.1.2.2.2 (by decide +kernel)
  generalize eg : zsI (zsI h 196 0 0) 196 11 0 = h2
  have e2 : ∀ a k, a ≠ 196 → h2.2.1 a k = h.2.1 a k := fun a k ha => by rw [← eg, zsI_no (by omega), zsI_no (by omega)]
  have e3 : ∀ k, k ≠ 0 → k ≠ 11 → h2.2.1 196 k = h.2.1 196 k := fun k w1 w2 => by rw [← eg, zsI_no (by omega), zsI_no (by omega)]
  have h1 : h2.1 = hh_487.1 := by rw [← eg]; exact m.2.1.2.2.2
  have hA : lPA A c h2 := by rw [← eg]; exact (m.pa z.1.1).gd
  have B : cI A ≠ 0 → bgM A s h2 := fun ne => by rw [← eg]; exact (z.bm m ne).gd
  have er : h2.2.2.2.1 = h.2.2.2.1 := by rw [← eg]; rfl
  have q15 : h2.2.2.2.1 196 15 = some 199 := by rw [er]; exact m.r15
  have q17 : h2.2.2.2.1 196 17 = some 201 := by rw [er]; exact m.mw.2.1
  have z196 : zsh h2 196 = some (12, 39) := zsh_by h1 (by decide +kernel)
  have z199 : zsh h2 199 = some (14, 363) := zsh_by h1 (by decide +kernel)
  have z201 : zsh h2 201 = some (14, 76) := zsh_by h1 (by decide +kernel)
  have M : nMo A s 201 0 h2 := (z.lm m).1.1.fr (fun k => e2 _ _ (by decide))
  have hT := z.1.2.1
  have hB := z.1.2.2
  have hI := z.1.1.1
  have hN := z.2.1.1
  have k0 : (0 : Int32).toInt = 0 := by decide
  obtain ⟨b1, b2, b3, b4, b5⟩ := hI.2.2.1
  show zPn N none d mX12_box (0, [(0, .inr (.inr (some 196))), (1, .inl x), (2, .inl y)], [], h) _
  refine pa_aload_n (pc' := 1) dX12_box_0 rfl rfl ?_
  refine pa_callv (pc' := 4) (vs := []) (rest := []) dX12_box_1 ml_12_167 (by decide) rfl rfl rfl (fun d' _ => (m_good s196)) (fun v h3 hq => ?_)
  obtain ⟨ev, eh⟩ := hq
  subst ev
  show zPn N none d mX12_box (4, _, [], h3) _
  rw [eg] at eh
  subst eh
  refine pa_aload_n (pc' := 5) dX12_box_4 rfl rfl ?_
  refine pa_iload_n (pc' := 6) dX12_box_5 rfl rfl ?_
  refine pa_callv (pc' := 9) (vs := [.inl x]) (rest := []) dX12_box_6 ml_12_274 (by decide) rfl rfl rfl (fun d' _ => (M_isBox hA q15 h1)) (fun v g9 hq => ?_)
  obtain ⟨ev, eh⟩ := hq
  subst ev
  rw [eh]
  show zPn N none d mX12_box (9, _, [.inl (if 0 ≤ x.toInt ∧ x.toInt < (cB A:Int) then 1 else 0)], h3) _
  by_cases hx : 0 ≤ x.toInt ∧ x.toInt < (cB A : Int)
  case neg =>
    rw [if_neg hx]
    refine pa_if_t (pc' := 21) dX12_box_9 (by decide) (by decide) ?_
    refine pa_aload_n (pc' := 22) dX12_box_21 rfl rfl ?_
    refine pa_iconst (v := nI 1) (pc' := 23) dX12_box_22 (by decide) rfl ?_
    refine pa_callv (pc' := 26) (vs := [.inl (nI 1)]) (rest := []) dX12_box_23 ml_12_170 (by decide) rfl rfl rfl (fun d' _ => (m_no z196)) (fun v g hq => ?_)
    obtain ⟨ev, eh⟩ := hq
    subst ev
    show zPn N none d mX12_box (26, _, [.inl ((-1))], g) _
    refine pa_iret dX12_box_26 rfl rfl ?_
    unfold boV
    rw [if_neg (fun q => hx q.1)]
  obtain ⟨w, rfl, hw, ew⟩ := nI_ob hx.1 hx.2
  rw [if_pos hx]
  refine pa_if_f (pc' := 12) dX12_box_9 (by decide) (by decide) rfl ?_
  refine pa_iload_n (pc' := 13) dX12_box_12 rfl rfl ?_
  refine pa_iconst (v := 0) (pc' := 14) dX12_box_13 (by decide) rfl ?_
  refine pa_iconst (v := 5) (pc' := 15) dX12_box_14 (by decide) rfl ?_
  refine pa_calls (pc' := 18) (kd := 1) (vs := [.inl y, .inl 0, .inl 5]) (rest := []) dX12_box_15 ml_12_149 (.inl rfl) rfl rfl rfl (fun d' _ => in_v) (fun v g9 hq => ?_)
  obtain ⟨ev, eh⟩ := hq
  subst ev
  rw [eh]
  show zPn N none d mX12_box (18, _, [.inl (if ((0 : Int32)).toInt ≤ (y).toInt ∧ (y).toInt ≤ ((5 : Int32)).toInt then 1 else 0)], h3) _
  rw [k0, show (5 : Int32).toInt = 5 by decide]
  by_cases hy : 0 ≤ y.toInt ∧ y.toInt ≤ 5
  case neg =>
    rw [if_neg hy]
    refine pa_if_f (pc' := 21) dX12_box_18 (by decide) (by decide) rfl ?_
    refine pa_aload_n (pc' := 22) dX12_box_21 rfl rfl ?_
    refine pa_iconst (v := nI 1) (pc' := 23) dX12_box_22 (by decide) rfl ?_
    refine pa_callv (pc' := 26) (vs := [.inl (nI 1)]) (rest := []) dX12_box_23 ml_12_170 (by decide) rfl rfl rfl (fun d' _ => (m_no z196)) (fun v g hq => ?_)
    obtain ⟨ev, eh⟩ := hq
    subst ev
    show zPn N none d mX12_box (26, _, [.inl ((-1))], g) _
    refine pa_iret dX12_box_26 rfl rfl ?_
    unfold boV
    rw [if_neg (fun q => hy (by omega))]
  rw [if_pos hy]
  have hy : 0 ≤ y.toInt ∧ y.toInt < 6 := by omega
  refine pa_if_t (pc' := 27) dX12_box_18 (by decide) (by decide) ?_
  obtain ⟨q, rfl, hq, eq⟩ := nI_ob (n := 6) hy.1 hy.2
  have V : boV A s (nI w) (nI q) = boF A s w q := by
    unfold boV
    rw [if_pos ⟨hx, hy⟩, ew, eq]
  rw [V]
  clear V eq
  have B := B (hA.has hw)
  have d1 : h3.2.1 201 (12 + w) = tDy (s.2.2.2.2.1 w) := by rw [← (M.2.2.2 w hw).1, Nat.zero_add]
  have d2 : h3.2.1 201 (20 + w) = tGo (s.2.2.2.2.1 w) := by rw [← (M.2.2.2 w hw).2.1, Nat.zero_add]
  have oc := (hN.2.2 w hw).2.2
  refine pa_iload_n (pc' := 28) dX12_box_27 rfl rfl ?_
  refine pa_iconst (v := nI 4) (pc' := 29) dX12_box_28 (by decide) rfl ?_
  have fin : ∀ (v : Int32) (u : Option Nat) (N : Nat) (ls : zL), (match u with | some p => v = nI (p + 1) ∧ p ≤ 1000000 | none => v = 0) → zget ls 3 = some (.inl v) → zPn N none d mX12_box (66, ls, [], h3) (fun v' _ => v' = some (.inl (match u with | some p => nI p | none => -2))) := fun v u N ls hv l3 => by
    refine pa_iload_n (pc' := 67) dX12_box_66 l3 rfl ?_
    cases u with
    | none =>
      have hv : v = 0 := hv
      refine pa_if_f (pc' := 70) dX12_box_67 (decide_eq_false (not_not_intro hv)) (by decide) rfl ?_
      refine pa_bipush (v := (-2)) (pc' := 72) dX12_box_70 (by decide) rfl ?_
      refine pa_goto (pc' := 78) dX12_box_72 (by decide) ?_
      refine pa_iret dX12_box_78 rfl rfl ?_
      rfl
    | some p =>
      obtain ⟨hv, hp⟩ : v = nI (p + 1) ∧ p ≤ 1000000 := hv
      subst hv
      refine pa_if_t (pc' := 75) dX12_box_67 (decide_eq_true (fun q => by have := congrArg Int32.toInt q; rw [nI_toInt (by omega), k0] at this; omega)) (by decide) ?_
      refine pa_iload_n (pc' := 76) dX12_box_75 l3 rfl ?_
      refine pa_iconst (v := nI 1) (pc' := 77) dX12_box_76 (by decide) rfl ?_
      refine pa_isub (pc' := 78) (v := nI ((p + 1) - 1)) dX12_box_77 (nI_sub (by omega)) rfl ?_
      refine pa_iret dX12_box_78 rfl rfl ?_
      rw [Nat.add_sub_cancel]
  have hq : q < 4 ∨ q = 4 ∨ q = 5 := by omega
  rcases hq with hq4 | rfl | rfl
  · refine pa_icmp_f (pc' := 32) dX12_box_29 (zk_lt_ge (b := true) (zj_lt (by rw [nI_toInt (by omega), nI_toInt (by omega)]; omega))) (by decide) rfl ?_
    have e := (num_box hI hB hT hw).2.2.2.2 q hq4
    refine pa_aload_n (pc' := 33) dX12_box_32 rfl rfl ?_
    refine pa_iload_n (pc' := 34) dX12_box_33 rfl rfl ?_
    refine pa_iload_n (pc' := 35) dX12_box_34 rfl rfl ?_
    refine pa_callv (pc' := 38) (vs := [.inl (nI w), .inl (nI q)]) (rest := []) dX12_box_35 ml_12_262 (by decide) rfl rfl rfl (fun d' _ => (M_ofBox h1 q15 (by omega) hq4 ((B.2.2.2.2.2 w hw q hq4).trans e))) (fun v g9 hq => ?_)
    obtain ⟨ev, eh⟩ := hq
    subst ev
    rw [eh]
    show zPn N none d mX12_box (38, _, [.inl (nI (nu A (127 + 4 * w + q)))], h3) _
    refine pa_iret dX12_box_38 rfl rfl ?_
    have hq : q = 0 ∨ q = 1 ∨ q = 2 ∨ q = 3 := by omega
    rcases hq with rfl | rfl | rfl | rfl
    · rfl
    · show (some (Sum.inl (nI (nu A (127 + 4 * w + 1)))) : Option zV) = some (Sum.inl (nI (nu A (128 + 4 * w))))
      rw [show 127 + 4 * w + 1 = 128 + 4 * w by omega]
    · show (some (Sum.inl (nI (nu A (127 + 4 * w + 2)))) : Option zV) = some (Sum.inl (nI (nu A (129 + 4 * w))))
      rw [show 127 + 4 * w + 2 = 129 + 4 * w by omega]
    · show (some (Sum.inl (nI (nu A (127 + 4 * w + 3)))) : Option zV) = some (Sum.inl (nI (nu A (130 + 4 * w))))
      rw [show 127 + 4 * w + 3 = 130 + 4 * w by omega]
  · refine pa_icmp_t (pc' := 39) dX12_box_29 (by decide) (by decide) ?_
    refine pa_iload_n (pc' := 40) dX12_box_39 rfl rfl ?_
    refine pa_iconst (v := nI 4) (pc' := 41) dX12_box_40 (by decide) rfl ?_
    refine pa_icmp_f (pc' := 44) dX12_box_41 (by decide) (by decide) rfl ?_
    refine pa_aload_n (pc' := 45) dX12_box_44 rfl rfl ?_
    refine pa_getR (pc' := 48) (n := 39) (r := 201) dX12_box_45 fl_12_26 z196 (by decide) q17 rfl ?_
    refine pa_bipush (v := nI 12) (pc' := 50) dX12_box_48 (by decide) rfl ?_
    refine pa_iload_n (pc' := 51) dX12_box_50 rfl rfl ?_
    refine pa_iadd (pc' := 52) (v := nI (12 + w)) dX12_box_51 (nI_add _ _) rfl ?_
    refine pa_iald (pc' := 53) dX12_box_52 z201 rfl (fun _ => ?_)
    rw [nI_clamp (by omega), d1]
    refine pa_goto (pc' := 65) dX12_box_53 (by decide) ?_
    refine pa_istore_n (pc' := 66) dX12_box_65 (by decide) rfl rfl ?_
    refine (fin _ ((s.2.2.2.2.1 w).map (fun p => p.1)) _ _ ?_ rfl).mono (fun v h' e => ?_)
    · cases o : s.2.2.2.2.1 w with
      | none => rfl
      | some p =>
        have := (oc p o).2
        have nb := nSn_le s (cB A)
        exact ⟨rfl, (by omega : p.1 ≤ 1000000)⟩
    · rw [e]
      show _ = (some (Sum.inl (sDy (s.2.2.2.2.1 w))) : Option zV)
      cases s.2.2.2.2.1 w <;> rfl
  · refine pa_icmp_t (pc' := 39) dX12_box_29 (by decide) (by decide) ?_
    refine pa_iload_n (pc' := 40) dX12_box_39 rfl rfl ?_
    refine pa_iconst (v := nI 4) (pc' := 41) dX12_box_40 (by decide) rfl ?_
    refine pa_icmp_t (pc' := 56) dX12_box_41 (by decide) (by decide) ?_
    refine pa_aload_n (pc' := 57) dX12_box_56 rfl rfl ?_
    refine pa_getR (pc' := 60) (n := 39) (r := 201) dX12_box_57 fl_12_26 z196 (by decide) q17 rfl ?_
    refine pa_bipush (v := nI 20) (pc' := 62) dX12_box_60 (by decide) rfl ?_
    refine pa_iload_n (pc' := 63) dX12_box_62 rfl rfl ?_
    refine pa_iadd (pc' := 64) (v := nI (20 + w)) dX12_box_63 (nI_add _ _) rfl ?_
    refine pa_iald (pc' := 65) dX12_box_64 z201 rfl (fun _ => ?_)
    rw [nI_clamp (by omega), d2]
    refine pa_istore_n (pc' := 66) dX12_box_65 (by decide) rfl rfl ?_
    refine (fin _ ((s.2.2.2.2.1 w).map (fun p => p.2)) _ _ ?_ rfl).mono (fun v h' e => ?_)
    · cases o : s.2.2.2.2.1 w with
      | none => rfl
      | some p =>
        have := (oc p o).1
        exact ⟨rfl, (by omega : p.2 ≤ 1000000)⟩
    · rw [e]
      show _ = (some (Sum.inl (sGo (s.2.2.2.2.1 w))) : Option zV)
      cases s.2.2.2.2.1 w <;> rfl
end AN1
/-! answers: sent -/
def snP (A : pA) (b : Nat) (p : Nat × Nat) (q : Nat) : Int32 := if q = 0 then 1 else if q = 1 then (if p.2 = nu A (128 + 4 * b) then 1 else 0) else nI p.1 - nI (nu A (130 + 4 * b))
def snF (A : pA) (s : nS) (q : Nat) : Nat → Int32
  | 0 => 0
  | b + 1 => match s.2.2.2.2.1 b with
    | none => snF A s q b
    | some p => snF A s q b + snP A b p q
def snV (A : pA) (s : nS) (x : Int32) : Int32 := if cI A ≠ 0 ∧ 0 ≤ x.toInt ∧ x.toInt ≤ 2 then snF A s x.toInt.toNat (cB A) else -1
section AN7
variable {t d N c w b : Nat} {h g : zH} {A : pA} {s : nS} {H J : List nS} {x y f o : Int32} {kk : Bool} {im : Int32}
theorem N_sentPart (z : lZ A c s H J h) (hi : lInv t h) (hb : b < cB A) {p : Nat × Nat} (o : s.2.2.2.2.1 b = some p) {q : Nat} (hq : q ≤ 2) : zPa d mX11_sentPart [.inr (.inr (some 0)), .inl (nI b), .inl (nI q)] h (fun v g => v = some (.inl (snP A b p q)) ∧ g = h) := by
  intro N
  have h1 := hi.2.2.2.2.1
  have hA := z.1.1
  have hT := z.1.2.1
  have hB := z.1.2.2
  have hI := hA.1
  have hN := z.2.1.1
  have K := hA.2.2.2.1
  have hc2 : c = 2 ∨ c = 42 := hA.2.1
  obtain ⟨b1, b2, b3, b4, b5⟩ := hI.2.2.1
  have s0 : zsh h 0 = some (11, 16) := zsh_by h1 (by decide +kernel)
  obtain ⟨sc, sc1, sc2, sc4, sc5, scw, scb⟩ := cSh hA.2.1 h1
  obtain ⟨c9, c12, c13, cw, cb⟩ := cRf_of hi.1 hA.2.1
  have S := hi.nw
  obtain ⟨⟨s86, s87, s88, s89, s90, s91⟩, r87, r88, r89, r90, r91⟩ := S.o86
  have r3 := hA.2.2.1
  have r6 := S.2.1
  obtain ⟨n1, n2, n3, n4⟩ := z.2.2.1.1
  have oc := ((hN.2.2 b hb).2.2 p o)
  have nb := nSn_le s (cB A)
  have q1 : h.2.1 89 b = nI p.1 := by rw [show h.2.1 89 b = sDy (s.2.2.2.2.1 b) from (n4 b hb).1, o]; rfl
  have q2 : h.2.1 90 b = nI p.2 := by rw [show h.2.1 90 b = sGo (s.2.2.2.2.1 b) from (n4 b hb).2.1, o]; rfl
  obtain ⟨-, bto, -, bdy, bv⟩ := num_box hI hB hT hb
  have e1 := K.boto hT hB hI hb
  have e3 : h.2.1 (c + 24 + b) 3 = nI (nu A (130 + 4 * b)) := by rw [K.bo hT hI hb (by decide), bv 3 (by decide), show 127 + 4 * b + 3 = 130 + 4 * b by omega]
  have sb := scb b (by omega)
  have rb := cb b (by omega)
  have hq : q = 0 ∨ q = 1 ∨ q = 2 := by omega
  show zPn N none d mX11_sentPart (0, [(0, .inr (.inr (some 0))), (1, .inl (nI b)), (2, .inl (nI q))], [], h) _
  rcases hq with rfl | rfl | rfl
  · refine pa_iload_n (pc' := 1) dX11_sentPart_0 rfl rfl ?_
    refine pa_if_f (pc' := 4) dX11_sentPart_1 (by decide) (by decide) rfl ?_
    refine pa_iconst (v := 1) (pc' := 5) dX11_sentPart_4 (by decide) rfl ?_
    refine pa_iret dX11_sentPart_5 rfl rfl ?_
    exact ⟨rfl, rfl⟩
  · refine pa_iload_n (pc' := 1) dX11_sentPart_0 rfl rfl ?_
    refine pa_if_t (pc' := 6) dX11_sentPart_1 (by decide) (by decide) ?_
    refine pa_iload_n (pc' := 7) dX11_sentPart_6 rfl rfl ?_
    refine pa_iconst (v := nI 1) (pc' := 8) dX11_sentPart_7 (by decide) rfl ?_
    refine pa_icmp_f (pc' := 11) dX11_sentPart_8 (by decide) (by decide) rfl ?_
    refine pa_aload_n (pc' := 12) dX11_sentPart_11 rfl rfl ?_
    refine pa_getR (pc' := 15) (n := 16) (r := 86) dX11_sentPart_12 fl_11_42 s0 (by decide) r6 rfl ?_
    refine pa_getR (pc' := 18) (n := 7) (r := 90) dX11_sentPart_15 fl_11_171 s86 (by decide) r90 rfl ?_
    refine pa_iload_n (pc' := 19) dX11_sentPart_18 rfl rfl ?_
    refine pa_iald (pc' := 20) dX11_sentPart_19 s90 rfl (fun _ => ?_)
    rw [nI_clamp (by omega), q2]
    refine pa_aload_n (pc' := 21) dX11_sentPart_20 rfl rfl ?_
    refine pa_getR (pc' := 24) (n := 16) (r := c) dX11_sentPart_21 fl_11_23 s0 (by decide) r3 rfl ?_
    refine pa_getR (pc' := 27) (n := 15) (r := c + 5) dX11_sentPart_24 fl_11_150 sc (by decide) c13 rfl ?_
    refine pa_iload_n (pc' := 28) dX11_sentPart_27 rfl rfl ?_
    refine pa_aald (pc' := 29) (r := c + 24 + b) dX11_sentPart_28 sc5 (by decide) (zn_in (by omega) (by omega)) (by rw [nI_clamp (by omega)]; exact rb) rfl ?_
    refine pa_getI (pc' := 32) (n := 4) (v := nI (nu A (128 + 4 * b))) dX11_sentPart_29 fl_11_159 sb (by decide) e1 rfl ?_
    by_cases e : p.2 = nu A (128 + 4 * b)
    · refine pa_icmp_f (pc' := 35) dX11_sentPart_32 (decide_eq_false (not_not_intro (by rw [e]))) (by decide) rfl ?_
      refine pa_iconst (v := 1) (pc' := 36) dX11_sentPart_35 (by decide) rfl ?_
      refine pa_goto (pc' := 40) dX11_sentPart_36 (by decide) ?_
      refine pa_iret dX11_sentPart_40 rfl rfl ?_
      exact ⟨by unfold snP; rw [if_neg (by decide), if_pos rfl, if_pos e], rfl⟩
    · refine pa_icmp_t (pc' := 39) dX11_sentPart_32 (decide_eq_true (fun v => e ((nI_eq (by omega) (by omega)).mp v))) (by decide) ?_
      refine pa_iconst (v := 0) (pc' := 40) dX11_sentPart_39 (by decide) rfl ?_
      refine pa_iret dX11_sentPart_40 rfl rfl ?_
      exact ⟨by unfold snP; rw [if_neg (by decide), if_pos rfl, if_neg e], rfl⟩
  · refine pa_iload_n (pc' := 1) dX11_sentPart_0 rfl rfl ?_
    refine pa_if_t (pc' := 6) dX11_sentPart_1 (by decide) (by decide) ?_
    refine pa_iload_n (pc' := 7) dX11_sentPart_6 rfl rfl ?_
    refine pa_iconst (v := nI 1) (pc' := 8) dX11_sentPart_7 (by decide) rfl ?_
    refine pa_icmp_t (pc' := 41) dX11_sentPart_8 (by decide) (by decide) ?_
    refine pa_aload_n (pc' := 42) dX11_sentPart_41 rfl rfl ?_
    refine pa_getR (pc' := 45) (n := 16) (r := 86) dX11_sentPart_42 fl_11_42 s0 (by decide) r6 rfl ?_
    refine pa_getR (pc' := 48) (n := 7) (r := 89) dX11_sentPart_45 fl_11_168 s86 (by decide) r89 rfl ?_
    refine pa_iload_n (pc' := 49) dX11_sentPart_48 rfl rfl ?_
    refine pa_iald (pc' := 50) dX11_sentPart_49 s89 rfl (fun _ => ?_)
    rw [nI_clamp (by omega), q1]
    refine pa_aload_n (pc' := 51) dX11_sentPart_50 rfl rfl ?_
    refine pa_getR (pc' := 54) (n := 16) (r := c) dX11_sentPart_51 fl_11_23 s0 (by decide) r3 rfl ?_
    refine pa_getR (pc' := 57) (n := 15) (r := c + 5) dX11_sentPart_54 fl_11_150 sc (by decide) c13 rfl ?_
    refine pa_iload_n (pc' := 58) dX11_sentPart_57 rfl rfl ?_
    refine pa_aald (pc' := 59) (r := c + 24 + b) dX11_sentPart_58 sc5 (by decide) (zn_in (by omega) (by omega)) (by rw [nI_clamp (by omega)]; exact rb) rfl ?_
    refine pa_getI (pc' := 62) (n := 4) (v := nI (nu A (130 + 4 * b))) dX11_sentPart_59 fl_11_165 sb (by decide) e3 rfl ?_
    refine pa_isub (pc' := 63) dX11_sentPart_62 rfl rfl ?_
    refine pa_iret dX11_sentPart_63 rfl rfl ?_
    exact ⟨rfl, rfl⟩
theorem N_sent11 (z : lZ A c s H J h) (hi : lInv t h) : zPa d mX11_sent [.inr (.inr (some 0)), .inl x] h (fun v _ => v = some (.inl (snV A s x))) := by
  intro N
  have h1 := hi.2.2.2.2.1
  have hA := z.1.1
  have hT := z.1.2.1
  have hB := z.1.2.2
  have hI := hA.1
  have hN := z.2.1.1
  have K := hA.2.2.2.1
  have hc2 : c = 2 ∨ c = 42 := hA.2.1
  obtain ⟨b1, b2, b3, b4, b5⟩ := hI.2.2.1
  have s0 : zsh h 0 = some (11, 16) := zsh_by h1 (by decide +kernel)
  obtain ⟨sc, sc1, sc2, sc4, sc5, scw, scb⟩ := cSh hA.2.1 h1
  obtain ⟨c9, c12, c13, cw, cb⟩ := cRf_of hi.1 hA.2.1
  have S := hi.nw
  obtain ⟨⟨s86, s87, s88, s89, s90, s91⟩, r87, r88, r89, r90, r91⟩ := S.o86
  have r3 := hA.2.2.1
  have r6 := S.2.1
  obtain ⟨n1, n2, n3, n4⟩ := z.2.2.1.1
  have k0 : (0 : Int32).toInt = 0 := by decide
  have e7 := K.2.2.2.2.1
  have ref : ¬ (cI A ≠ 0 ∧ 0 ≤ x.toInt ∧ x.toInt ≤ 2) → ∀ N, zPn N none d mX11_sent (16, [(0, .inr (.inr (some 0))), (1, .inl x)], [], h) (fun v _ => v = some (.inl (snV A s x))) := fun q N => by
    refine pa_aload_n (pc' := 17) dX11_sent_16 rfl rfl ?_
    refine pa_iconst (v := nI 1) (pc' := 18) dX11_sent_17 (by decide) rfl ?_
    refine pa_callv (pc' := 21) (vs := [.inl (nI 1)]) (rest := []) dX11_sent_18 ml_11_98 (by decide) rfl rfl rfl (fun d' _ => (c_ref s0)) (fun v g hq => ?_)
    obtain ⟨ev, eh⟩ := hq
    subst ev
    show zPn N none d mX11_sent (21, _, [.inl ((-1))], g) _
    refine pa_iret dX11_sent_21 rfl rfl ?_
    unfold snV
    rw [if_neg q]
  show zPn N none d mX11_sent (0, [(0, .inr (.inr (some 0))), (1, .inl x)], [], h) _
  refine pa_aload_n (pc' := 1) dX11_sent_0 rfl rfl ?_
  refine pa_callv (pc' := 4) (vs := []) (rest := []) dX11_sent_1 ml_11_222 (by decide) rfl rfl rfl (fun d' _ => (N_hasPost hA h1)) (fun v g9 hq => ?_)
  obtain ⟨ev, eh⟩ := hq
  subst ev
  rw [eh]
  show zPn N none d mX11_sent (4, _, [.inl (if cI A = 0 then 0 else 1)], h) _
  by_cases z0 : cI A = 0
  · rw [if_pos z0]
    refine pa_if_t (pc' := 16) dX11_sent_4 (by decide) (by decide) ?_
    exact ref (fun q => q.1 z0) _
  rw [if_neg z0]
  refine pa_if_f (pc' := 7) dX11_sent_4 (by decide) (by decide) rfl ?_
  refine pa_iload_n (pc' := 8) dX11_sent_7 rfl rfl ?_
  refine pa_if (pc' := 16) (pc2 := 11) dX11_sent_8 (by decide) rfl (fun q => ?_) (fun q => ?_)
  · have q := zi_lt q
    rw [k0] at q
    exact ref (fun q' => by omega) _
  have q := zi_nlt q
  rw [k0] at q
  refine pa_iload_n (pc' := 12) dX11_sent_11 rfl rfl ?_
  refine pa_iconst (v := nI 2) (pc' := 13) dX11_sent_12 (by decide) rfl ?_
  refine pa_icmp (pc' := 22) (pc2 := 16) dX11_sent_13 (by decide) rfl (fun u => ?_) (fun u => ?_)
  rotate_left
  · have u := zi_gt (zk_le_gt u)
    rw [nI_toInt (by omega)] at u
    exact ref (fun q' => by omega) _
  have u := zi_ngt (zk_le_gt u)
  rw [nI_toInt (by omega)] at u
  clear ref
  obtain ⟨n, rfl, hn, en⟩ := nI_ob (n := 3) (show 0 ≤ x.toInt by omega) (by omega)
  have V : snV A s (nI n) = snF A s n (cB A) := by
    unfold snV
    rw [if_pos ⟨z0, by omega, by omega⟩, en]
  rw [V]
  have B := z.bc hi z0
  have lp : ∀ (N b : Nat) (ls : zL), b ≤ cB A → zget ls 0 = some (.inr (.inr (some 0))) → zget ls 1 = some (.inl (nI n)) → zget ls 2 = some (.inl (snF A s n b)) → zget ls 3 = some (.inl (nI b)) → zPn N none d mX11_sent (26, ls, [], h) (fun v _ => v = some (.inl (snF A s n (cB A)))) := by
    intro N
    induction N with
    | zero => intros; exact zPn.zero
    | succ N ih =>
      intro b ls hb hl0 hl1 hl2 hl3
      refine pa_iload_n (pc' := 27) dX11_sent_26 hl3 rfl ?_
      refine pa_aload_n (pc' := 28) dX11_sent_27 hl0 rfl ?_
      refine pa_getR (pc' := 31) (n := 16) (r := c) dX11_sent_28 fl_11_23 s0 (by decide) r3 rfl ?_
      refine pa_getI (pc' := 34) (n := 15) (v := nI (cB A)) dX11_sent_31 fl_11_239 sc (by decide) e7 rfl ?_
      refine pa_icmp (pc' := 63) (pc2 := 37) dX11_sent_34 (by decide) rfl (fun z9 => ?_) (fun z9 => ?_)
      · have z9 := zi_nlt (zk_ge_lt z9)
        rw [nI_toInt (by omega), nI_toInt (by omega)] at z9
        have eb : b = cB A := by omega
        subst eb
        refine pa_aload_n (pc' := 64) dX11_sent_63 hl0 rfl ?_
        refine pa_iload_n (pc' := 65) dX11_sent_64 hl2 rfl ?_
        refine pa_callv (pc' := 68) (vs := [.inl (snF A s n (cB A))]) (rest := []) dX11_sent_65 ml_11_112 (by decide) rfl rfl rfl (fun d' _ => (c_gra s0)) (fun v g9 hq => ?_)
        obtain ⟨ev, eh⟩ := hq
        subst ev
        show zPn (N + 1) none d mX11_sent (68, _, [.inl ((snF A s n (cB A)))], g9) _
        refine pa_iret dX11_sent_68 rfl rfl ?_
        rfl
      · have z9 := zi_lt (zk_ge_lt z9)
        rw [nI_toInt (by omega), nI_toInt (by omega)] at z9
        have hb : b < cB A := by omega
        refine pa_aload_n (pc' := 38) dX11_sent_37 hl0 rfl ?_
        refine pa_getR (pc' := 41) (n := 16) (r := 86) dX11_sent_38 fl_11_42 s0 (by decide) r6 rfl ?_
        refine pa_iload_n (pc' := 42) dX11_sent_41 hl3 rfl ?_
        refine pa_callv (pc' := 45) (vs := [.inl (nI b)]) (rest := []) dX11_sent_42 ml_11_242 (by decide) rfl rfl rfl (fun d' _ => (N_isSent B hb)) (fun v g9 hq => ?_)
        obtain ⟨ev, eh⟩ := hq
        subst ev
        rw [eh]
        show zPn (N + 1) none d mX11_sent (45, _, [.inl (match s.2.2.2.2.1 b with | some _ => 1 | none => 0)], h) _
        cases o : s.2.2.2.2.1 b with
        | none =>
          refine pa_if_t (pc' := 57) dX11_sent_45 (show zcond .eq (0 : Int32) 0 = true by decide) (by decide) ?_
          refine pa_iinc (pc' := 60) (v := nI (b + 1)) dX11_sent_57 hl3 (by decide) (nI_add b 1) rfl rfl ?_
          refine pa_gotos (pc' := 26) dX11_sent_60 (by decide) ?_
          refine ih (b + 1) _ (by omega) (zget_s1 hl0 (by decide) (by simp [zcat])) (zget_s1 hl1 (by decide) (by simp [zcat])) ?_ zget_s1e
          have es : snF A s n (b + 1) = snF A s n b := by
            show (match s.2.2.2.2.1 b with | none => snF A s n b | some p => snF A s n b + snP A b p n) = _
            rw [o]
          rw [es]
          exact (zget_s1 hl2 (by decide) (by simp [zcat]))
        | some p =>
          refine pa_if_f (pc' := 48) dX11_sent_45 (show zcond .eq (1 : Int32) 0 = false by decide) (by decide) rfl ?_
          refine pa_iload_n (pc' := 49) dX11_sent_48 hl2 rfl ?_
          refine pa_aload_n (pc' := 50) dX11_sent_49 hl0 rfl ?_
          refine pa_iload_n (pc' := 51) dX11_sent_50 hl3 rfl ?_
          refine pa_iload_n (pc' := 52) dX11_sent_51 hl1 rfl ?_
          refine pa_callv (pc' := 55) (vs := [.inl (nI b), .inl (nI n)]) (rest := [.inl (snF A s n b)]) dX11_sent_52 ml_11_245 (by decide) rfl rfl rfl (fun d' _ => (N_sentPart z hi hb o (by omega))) (fun v g9 hq => ?_)
          obtain ⟨ev, eh⟩ := hq
          subst ev
          rw [eh]
          show zPn (N + 1) none d mX11_sent (55, _, [.inl (snP A b p n), .inl (snF A s n b)], h) _
          refine pa_iadd (pc' := 56) dX11_sent_55 rfl rfl ?_
          refine pa_istore_n (pc' := 57) dX11_sent_56 (by decide) rfl rfl ?_
          refine pa_iinc (pc' := 60) (v := nI (b + 1)) dX11_sent_57 (zget_s1 hl3 (by decide) (by simp [zcat])) (by decide) (nI_add b 1) rfl rfl ?_
          refine pa_gotos (pc' := 26) dX11_sent_60 (by decide) ?_
          refine ih (b + 1) _ (by omega) (zget_s1 (zget_s1 hl0 (by decide) (by simp [zcat])) (by decide) (by simp [zcat])) (zget_s1 (zget_s1 hl1 (by decide) (by simp [zcat])) (by decide) (by simp [zcat])) ?_ zget_s1e
          have es : snF A s n (b + 1) = snF A s n b + snP A b p n := by
            show (match s.2.2.2.2.1 b with | none => snF A s n b | some p => snF A s n b + snP A b p n) = _
            rw [o]
          rw [es]
          exact (zget_s1 zget_s1e (by decide) (by simp [zcat]))
  refine pa_iconst (v := 0) (pc' := 23) dX11_sent_22 (by decide) rfl ?_
  refine pa_istore_n (pc' := 24) dX11_sent_23 (by decide) rfl rfl ?_
  refine pa_iconst (v := nI 0) (pc' := 25) dX11_sent_24 (by decide) rfl ?_
  refine pa_istore_n (pc' := 26) dX11_sent_25 (by decide) rfl rfl ?_
  exact lp _ 0 _ (Nat.zero_le _) rfl rfl rfl rfl
theorem M_hasB (z : lZ A c s H J g) (m : lMid kk im t g h) : (cI A = 0 ∧ h.2.1 196 14 = 0) ∨ (cI A ≠ 0 ∧ h.2.1 196 14 = 1) := by
  rcases (m.pa z.1.1).2.2.2.2 with ⟨a, e⟩ | ⟨a, e, -⟩
  · exact .inl ⟨by rw [e]; rfl, a⟩
  · exact .inr ⟨e, a⟩
theorem M_7 (hA : lPA A c h) (z : cI A ≠ 0) : h.2.1 199 7 = nI (cB A) := by
  rcases hA.2.2.2.2 with ⟨-, e⟩ | ⟨-, -, K⟩
  · exact absurd (by rw [e]; rfl) z
  · exact K.2.2.2.2.2.1
theorem N_sent12 (z : lZ A c s H J g) (m : lMid kk im t g h) : zPa d mX12_sent [.inr (.inr (some 196)), .inl x] h (fun v _ => v = some (.inl (snV A s x))) := by
  intro N
  have hp := M_hasB z m
  have s196 : zsh h 196 = some (12, 39) := zsh_by m.2.1.2.2.2 (by decide +kernel)
  generalize eg : zsI (zsI h 196 0 0) 196 11 0 = h2
  have e2 : ∀ a k, a ≠ 196 → h2.2.1 a k = h.2.1 a k := fun a k ha => by rw [← eg, zsI_no (by omega), zsI_no (by omega)]
  have e3 : ∀ k, k ≠ 0 → k ≠ 11 → h2.2.1 196 k = h.2.1 196 k := fun k w1 w2 => by rw [← eg, zsI_no (by omega), zsI_no (by omega)]
  have h1 : h2.1 = hh_487.1 := by rw [← eg]; exact m.2.1.2.2.2
  have hA : lPA A c h2 := by rw [← eg]; exact (m.pa z.1.1).gd
  have B : cI A ≠ 0 → bgM A s h2 := fun ne => by rw [← eg]; exact (z.bm m ne).gd
  have er : h2.2.2.2.1 = h.2.2.2.1 := by rw [← eg]; rfl
  have q15 : h2.2.2.2.1 196 15 = some 199 := by rw [er]; exact m.r15
  have q17 : h2.2.2.2.1 196 17 = some 201 := by rw [er]; exact m.mw.2.1
  have z196 : zsh h2 196 = some (12, 39) := zsh_by h1 (by decide +kernel)
  have z199 : zsh h2 199 = some (14, 363) := zsh_by h1 (by decide +kernel)
  have z201 : zsh h2 201 = some (14, 76) := zsh_by h1 (by decide +kernel)
  have M : nMo A s 201 0 h2 := (z.lm m).1.1.fr (fun k => e2 _ _ (by decide))
  have hT := z.1.2.1
  have hB := z.1.2.2
  have hI := z.1.1.1
  have hN := z.2.1.1
  have k0 : (0 : Int32).toInt = 0 := by decide
  obtain ⟨b1, b2, b3, b4, b5⟩ := hI.2.2.1
  rw [← e3 14 (by decide) (by decide)] at hp
  show zPn N none d mX12_sent (0, [(0, .inr (.inr (some 196))), (1, .inl x)], [], h) _
  refine pa_aload_n (pc' := 1) dX12_sent_0 rfl rfl ?_
  refine pa_callv (pc' := 4) (vs := []) (rest := []) dX12_sent_1 ml_12_167 (by decide) rfl rfl rfl (fun d' _ => (m_good s196)) (fun v h3 hq => ?_)
  obtain ⟨ev, eh⟩ := hq
  subst ev
  show zPn N none d mX12_sent (4, _, [], h3) _
  rw [eg] at eh
  subst eh
  rcases hp with ⟨z0, hp⟩ | ⟨z0, hp⟩
  · refine pa_aload_n (pc' := 5) dX12_sent_4 rfl rfl ?_
    refine pa_getI (pc' := 8) (n := 39) (v := 0) dX12_sent_5 fl_12_180 z196 (by decide) hp rfl ?_
    refine pa_if_t (pc' := 20) dX12_sent_8 (by decide) (by decide) ?_
    refine pa_aload_n (pc' := 21) dX12_sent_20 rfl rfl ?_
    refine pa_iconst (v := nI 1) (pc' := 22) dX12_sent_21 (by decide) rfl ?_
    refine pa_callv (pc' := 25) (vs := [.inl (nI 1)]) (rest := []) dX12_sent_22 ml_12_170 (by decide) rfl rfl rfl (fun d' _ => (m_no z196)) (fun v g hq => ?_)
    obtain ⟨ev, eh⟩ := hq
    subst ev
    show zPn N none d mX12_sent (25, _, [.inl ((-1))], g) _
    refine pa_iret dX12_sent_25 rfl rfl ?_
    unfold snV
    rw [if_neg (fun q => q.1 z0)]
  refine pa_aload_n (pc' := 5) dX12_sent_4 rfl rfl ?_
  refine pa_getI (pc' := 8) (n := 39) (v := 1) dX12_sent_5 fl_12_180 z196 (by decide) hp rfl ?_
  refine pa_if_f (pc' := 11) dX12_sent_8 (by decide) (by decide) rfl ?_
  refine pa_iload_n (pc' := 12) dX12_sent_11 rfl rfl ?_
  refine pa_iconst (v := 0) (pc' := 13) dX12_sent_12 (by decide) rfl ?_
  refine pa_iconst (v := 2) (pc' := 14) dX12_sent_13 (by decide) rfl ?_
  refine pa_calls (pc' := 17) (kd := 1) (vs := [.inl x, .inl 0, .inl 2]) (rest := []) dX12_sent_14 ml_12_149 (.inl rfl) rfl rfl rfl (fun d' _ => in_v) (fun v g9 hq => ?_)
  obtain ⟨ev, eh⟩ := hq
  subst ev
  rw [eh]
  show zPn N none d mX12_sent (17, _, [.inl (if ((0 : Int32)).toInt ≤ (x).toInt ∧ (x).toInt ≤ ((2 : Int32)).toInt then 1 else 0)], h3) _
  rw [k0, show (2 : Int32).toInt = 2 by decide]
  by_cases hy : 0 ≤ x.toInt ∧ x.toInt ≤ 2
  case neg =>
    rw [if_neg hy]
    refine pa_if_f (pc' := 20) dX12_sent_17 (by decide) (by decide) rfl ?_
    refine pa_aload_n (pc' := 21) dX12_sent_20 rfl rfl ?_
    refine pa_iconst (v := nI 1) (pc' := 22) dX12_sent_21 (by decide) rfl ?_
    refine pa_callv (pc' := 25) (vs := [.inl (nI 1)]) (rest := []) dX12_sent_22 ml_12_170 (by decide) rfl rfl rfl (fun d' _ => (m_no z196)) (fun v g hq => ?_)
    obtain ⟨ev, eh⟩ := hq
    subst ev
    show zPn N none d mX12_sent (25, _, [.inl ((-1))], g) _
    refine pa_iret dX12_sent_25 rfl rfl ?_
    unfold snV
    rw [if_neg (fun q => hy q.2)]
  rw [if_pos hy]
  obtain ⟨n, rfl, hn, en⟩ := nI_ob (n := 3) hy.1 (by omega)
  have V : snV A s (nI n) = snF A s n (cB A) := by
    unfold snV
    rw [if_pos ⟨z0, by omega, by omega⟩, en]
  rw [V]
  have B := B z0
  have e7 := M_7 hA z0
  have lp : ∀ (N b : Nat) (ls : zL), b ≤ cB A → zget ls 0 = some (.inr (.inr (some 196))) → zget ls 1 = some (.inl (nI n)) → zget ls 2 = some (.inl (snF A s n b)) → zget ls 3 = some (.inl (nI b)) → zPn N none d mX12_sent (30, ls, [], h3) (fun v _ => v = some (.inl (snF A s n (cB A)))) := by
    intro N
    induction N with
    | zero => intros; exact zPn.zero
    | succ N ih =>
      intro b ls hb hl0 hl1 hl2 hl3
      refine pa_iload_n (pc' := 31) dX12_sent_30 hl3 rfl ?_
      refine pa_aload_n (pc' := 32) dX12_sent_31 hl0 rfl ?_
      refine pa_getR (pc' := 35) (n := 39) (r := 199) dX12_sent_32 fl_12_20 z196 (by decide) q15 rfl ?_
      refine pa_bipush (v := nI 7) (pc' := 37) dX12_sent_35 (by decide) rfl ?_
      refine pa_iald (pc' := 38) dX12_sent_37 z199 rfl (fun _ => ?_)
      rw [nI_clamp (by omega), e7]
      refine pa_icmp (pc' := 124) (pc2 := 41) dX12_sent_38 (by decide) rfl (fun z9 => ?_) (fun z9 => ?_)
      · have z9 := zi_nlt (zk_ge_lt z9)
        rw [nI_toInt (by omega), nI_toInt (by omega)] at z9
        have eb : b = cB A := by omega
        subst eb
        refine pa_iload_n (pc' := 125) dX12_sent_124 hl2 rfl ?_
        refine pa_iret dX12_sent_125 rfl rfl ?_
        rfl
      · have z9 := zi_lt (zk_ge_lt z9)
        rw [nI_toInt (by omega), nI_toInt (by omega)] at z9
        have hb : b < cB A := by omega
        have d1 : h3.2.1 201 (12 + b) = tDy (s.2.2.2.2.1 b) := by rw [← (M.2.2.2 b hb).1, Nat.zero_add]
        have d2 : h3.2.1 201 (20 + b) = tGo (s.2.2.2.2.1 b) := by rw [← (M.2.2.2 b hb).2.1, Nat.zero_add]
        obtain ⟨-, bto, -, bdy, bv⟩ := num_box hI hB hT hb
        refine pa_aload_n (pc' := 42) dX12_sent_41 hl0 rfl ?_
        refine pa_getR (pc' := 45) (n := 39) (r := 201) dX12_sent_42 fl_12_26 z196 (by decide) q17 rfl ?_
        refine pa_bipush (v := nI 12) (pc' := 47) dX12_sent_45 (by decide) rfl ?_
        refine pa_iload_n (pc' := 48) dX12_sent_47 hl3 rfl ?_
        refine pa_iadd (pc' := 49) (v := nI (12 + b)) dX12_sent_48 (nI_add _ _) rfl ?_
        refine pa_iald (pc' := 50) dX12_sent_49 z201 rfl (fun _ => ?_)
        rw [nI_clamp (by omega), d1]
        cases o : s.2.2.2.2.1 b with
        | none =>
          have es : snF A s n (b + 1) = snF A s n b := by
            show (match s.2.2.2.2.1 b with | none => snF A s n b | some p => snF A s n b + snP A b p n) = _
            rw [o]
          refine pa_if_f (pc' := 53) dX12_sent_50 (show zcond .ne (0 : Int32) 0 = false by decide) (by decide) rfl ?_
          refine pa_goto (pc' := 118) dX12_sent_53 (by decide) ?_
          refine pa_iinc (pc' := 121) (v := nI (b + 1)) dX12_sent_118 hl3 (by decide) (nI_add b 1) rfl rfl ?_
          refine pa_gotos (pc' := 30) dX12_sent_121 (by decide) ?_
          refine ih (b + 1) _ (by omega) (zget_s1 hl0 (by decide) (by simp [zcat])) (zget_s1 hl1 (by decide) (by simp [zcat])) ?_ zget_s1e
          rw [es]
          exact (zget_s1 hl2 (by decide) (by simp [zcat]))
        | some p =>
          have oc := ((hN.2.2 b hb).2.2 p o)
          have nb := nSn_le s (cB A)
          rw [o] at d1 d2
          have d1 : h3.2.1 201 (12 + b) = nI (p.1 + 1) := d1
          have d2 : h3.2.1 201 (20 + b) = nI (p.2 + 1) := d2
          have es : snF A s n (b + 1) = snF A s n b + snP A b p n := by
            show (match s.2.2.2.2.1 b with | none => snF A s n b | some p => snF A s n b + snP A b p n) = _
            rw [o]
          have fin : ∀ u : Int32, snP A b p n = u → zPn (N + 1) none d mX12_sent (116, ls, [.inl u, .inl (snF A s n b)], h3) (fun v _ => v = some (.inl (snF A s n (cB A)))) := fun u eu => by
            refine pa_iadd (pc' := 117) dX12_sent_116 rfl rfl ?_
            refine pa_istore_n (pc' := 118) dX12_sent_117 (by decide) rfl rfl ?_
            refine pa_iinc (pc' := 121) (v := nI (b + 1)) dX12_sent_118 (zget_s1 hl3 (by decide) (by simp [zcat])) (by decide) (nI_add b 1) rfl rfl ?_
            refine pa_gotos (pc' := 30) dX12_sent_121 (by decide) ?_
            refine ih (b + 1) _ (by omega) (zget_s1 (zget_s1 hl0 (by decide) (by simp [zcat])) (by decide) (by simp [zcat])) (zget_s1 (zget_s1 hl1 (by decide) (by simp [zcat])) (by decide) (by simp [zcat])) ?_ zget_s1e
            rw [es, eu]
            exact (zget_s1 zget_s1e (by decide) (by simp [zcat]))
          have nz : ¬ (tDy (some p) = 0) := fun q => by
            have := congrArg Int32.toInt q
            rw [show tDy (some p) = nI (p.1 + 1) from rfl, nI_toInt (by omega), k0] at this
            omega
          refine pa_if_t (pc' := 56) dX12_sent_50 (decide_eq_true nz) (by decide) ?_
          refine pa_iload_n (pc' := 57) dX12_sent_56 hl2 rfl ?_
          refine pa_iload_n (pc' := 58) dX12_sent_57 hl1 rfl ?_
          have hn3 : n = 0 ∨ n = 1 ∨ n = 2 := by omega
          rcases hn3 with rfl | rfl | rfl
          · refine pa_if_f (pc' := 61) dX12_sent_58 (by decide) (by decide) rfl ?_
            refine pa_iconst (v := 1) (pc' := 62) dX12_sent_61 (by decide) rfl ?_
            refine pa_goto (pc' := 116) dX12_sent_62 (by decide) ?_
            exact fin _ rfl
          · refine pa_if_t (pc' := 65) dX12_sent_58 (by decide) (by decide) ?_
            refine pa_iload_n (pc' := 66) dX12_sent_65 hl1 rfl ?_
            refine pa_iconst (v := nI 1) (pc' := 67) dX12_sent_66 (by decide) rfl ?_
            refine pa_icmp_f (pc' := 70) dX12_sent_67 (by decide) (by decide) rfl ?_
            refine pa_aload_n (pc' := 71) dX12_sent_70 hl0 rfl ?_
            refine pa_getR (pc' := 74) (n := 39) (r := 201) dX12_sent_71 fl_12_26 z196 (by decide) q17 rfl ?_
            refine pa_bipush (v := nI 20) (pc' := 76) dX12_sent_74 (by decide) rfl ?_
            refine pa_iload_n (pc' := 77) dX12_sent_76 hl3 rfl ?_
            refine pa_iadd (pc' := 78) (v := nI (20 + b)) dX12_sent_77 (nI_add _ _) rfl ?_
            refine pa_iald (pc' := 79) dX12_sent_78 z201 rfl (fun _ => ?_)
            rw [nI_clamp (by omega), d2]
            refine pa_iconst (v := nI 1) (pc' := 80) dX12_sent_79 (by decide) rfl ?_
            refine pa_isub (pc' := 81) (v := nI ((p.2 + 1) - 1)) dX12_sent_80 (nI_sub (by omega)) rfl ?_
            refine pa_aload_n (pc' := 82) dX12_sent_81 hl0 rfl ?_
            refine pa_iload_n (pc' := 83) dX12_sent_82 hl3 rfl ?_
            refine pa_iconst (v := nI 1) (pc' := 84) dX12_sent_83 (by decide) rfl ?_
            refine pa_callv (pc' := 87) (vs := [.inl (nI b), .inl (nI 1)]) (rest := [.inl (nI ((p.2 + 1) - 1)), .inl (snF A s 1 b)]) dX12_sent_84 ml_12_262 (by decide) rfl rfl rfl (fun d' _ => (M_ofBoxA (j := 1) B hb (by decide))) (fun v g9 hq => ?_)
            obtain ⟨ev, eh⟩ := hq
            subst ev
            rw [eh]
            show zPn (N + 1) none d mX12_sent (87, _, [.inl (vA A (127 + 4 * b + 1)), .inl (nI ((p.2 + 1) - 1)), .inl (snF A s 1 b)], h3) _
            rw [bv 1 (by decide), show 127 + 4 * b + 1 = 128 + 4 * b by omega, Nat.add_sub_cancel]
            by_cases e : p.2 = nu A (128 + 4 * b)
            · refine pa_icmp_f (pc' := 90) dX12_sent_87 (decide_eq_false (not_not_intro (by rw [e]))) (by decide) rfl ?_
              refine pa_iconst (v := 1) (pc' := 91) dX12_sent_90 (by decide) rfl ?_
              refine pa_goto (pc' := 116) dX12_sent_91 (by decide) ?_
              exact fin _ (by unfold snP; rw [if_neg (by decide), if_pos rfl, if_pos e])
            · refine pa_icmp_t (pc' := 94) dX12_sent_87 (decide_eq_true (fun v => e ((nI_eq (by omega) (by omega)).mp v))) (by decide) ?_
              refine pa_iconst (v := 0) (pc' := 95) dX12_sent_94 (by decide) rfl ?_
              refine pa_goto (pc' := 116) dX12_sent_95 (by decide) ?_
              exact fin _ (by unfold snP; rw [if_neg (by decide), if_pos rfl, if_neg e])
          · refine pa_if_t (pc' := 65) dX12_sent_58 (by decide) (by decide) ?_
            refine pa_iload_n (pc' := 66) dX12_sent_65 hl1 rfl ?_
            refine pa_iconst (v := nI 1) (pc' := 67) dX12_sent_66 (by decide) rfl ?_
            refine pa_icmp_t (pc' := 98) dX12_sent_67 (by decide) (by decide) ?_
            refine pa_aload_n (pc' := 99) dX12_sent_98 hl0 rfl ?_
            refine pa_getR (pc' := 102) (n := 39) (r := 201) dX12_sent_99 fl_12_26 z196 (by decide) q17 rfl ?_
            refine pa_bipush (v := nI 12) (pc' := 104) dX12_sent_102 (by decide) rfl ?_
            refine pa_iload_n (pc' := 105) dX12_sent_104 hl3 rfl ?_
            refine pa_iadd (pc' := 106) (v := nI (12 + b)) dX12_sent_105 (nI_add _ _) rfl ?_
            refine pa_iald (pc' := 107) dX12_sent_106 z201 rfl (fun _ => ?_)
            rw [nI_clamp (by omega), d1]
            refine pa_iconst (v := nI 1) (pc' := 108) dX12_sent_107 (by decide) rfl ?_
            refine pa_isub (pc' := 109) (v := nI ((p.1 + 1) - 1)) dX12_sent_108 (nI_sub (by omega)) rfl ?_
            refine pa_aload_n (pc' := 110) dX12_sent_109 hl0 rfl ?_
            refine pa_iload_n (pc' := 111) dX12_sent_110 hl3 rfl ?_
            refine pa_iconst (v := nI 3) (pc' := 112) dX12_sent_111 (by decide) rfl ?_
            refine pa_callv (pc' := 115) (vs := [.inl (nI b), .inl (nI 3)]) (rest := [.inl (nI ((p.1 + 1) - 1)), .inl (snF A s 2 b)]) dX12_sent_112 ml_12_262 (by decide) rfl rfl rfl (fun d' _ => (M_ofBoxA (j := 3) B hb (by decide))) (fun v g9 hq => ?_)
            obtain ⟨ev, eh⟩ := hq
            subst ev
            rw [eh]
            show zPn (N + 1) none d mX12_sent (115, _, [.inl (vA A (127 + 4 * b + 3)), .inl (nI ((p.1 + 1) - 1)), .inl (snF A s 2 b)], h3) _
            rw [bv 3 (by decide), show 127 + 4 * b + 3 = 130 + 4 * b by omega, Nat.add_sub_cancel]
            refine pa_isub (pc' := 116) dX12_sent_115 rfl rfl ?_
            exact fin _ rfl
  refine pa_if_t (pc' := 26) dX12_sent_17 (by decide) (by decide) ?_
  refine pa_iconst (v := 0) (pc' := 27) dX12_sent_26 (by decide) rfl ?_
  refine pa_istore_n (pc' := 28) dX12_sent_27 (by decide) rfl rfl ?_
  refine pa_iconst (v := nI 0) (pc' := 29) dX12_sent_28 (by decide) rfl ?_
  refine pa_istore_n (pc' := 30) dX12_sent_29 (by decide) rfl rfl ?_
  exact lp _ 0 _ (Nat.zero_le _) rfl rfl rfl rfl
end AN7
