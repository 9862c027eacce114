/-! answers: whale, box, sung -/
theorem nI_ob {x : Int32} {n : Nat} (h0 : 0 ≤ x.toInt) (h1 : x.toInt < (n : Int)) : ∃ w : Nat, x = nI w ∧ w < n ∧ x.toInt.toNat = w := ⟨x.toInt.toNat, x_nI h0, by omega, rfl⟩
def whF (A : pA) (s : nS) (w : Nat) : Nat → Int32
  | 0 => kdA A w
  | 1 => nI (s.2.2.1 w)
  | 2 => nI (s.2.2.2.1 w)
  | 3 => nI (nu A (109 + 4 * w))
  | _ => nI (nu A (110 + 4 * w))
def whV (A : pA) (s : nS) (x y : Int32) : Int32 := if (0 ≤ x.toInt ∧ x.toInt < (cH A : Int)) ∧ 0 ≤ y.toInt ∧ y.toInt < 5 then whF A s x.toInt.toNat y.toInt.toNat else -1
def boF (A : pA) (s : nS) (b : Nat) : Nat → Int32
  | 0 => nI (nu A (127 + 4 * b))
  | 1 => nI (nu A (128 + 4 * b))
  | 2 => nI (nu A (129 + 4 * b))
  | 3 => nI (nu A (130 + 4 * b))
  | 4 => sDy (s.2.2.2.2.1 b)
  | _ => sGo (s.2.2.2.2.1 b)
def boV (A : pA) (s : nS) (x y : Int32) : Int32 := if (0 ≤ x.toInt ∧ x.toInt < (cB A : Int)) ∧ 0 ≤ y.toInt ∧ y.toInt < 6 then boF A s x.toInt.toNat y.toInt.toNat else -1
def suV (A : pA) (s : nS) (x y : Int32) : Int32 := if (0 ≤ x.toInt ∧ x.toInt < (cB A : Int)) ∧ 0 ≤ y.toInt ∧ y.toInt < (lB A x.toInt.toNat : Int) then nI (dg ((s.2.2.2.2.2 x.toInt.toNat).getD y.toInt.toNat 0)) else -1
section AN1
variable {t d N c w b : Nat} {h g : zH} {A : pA} {s : nS} {H J : List nS} {x y : Int32} {kk : Bool} {im : Int32}
theorem lPA.hasH (hA : lPA A c h) (hw : w < cH A) : cI A ≠ 0 := by
  rcases hA.2.2.2.2 with ⟨-, e⟩ | ⟨-, z, -⟩
  · rw [e] at hw
    exact absurd hw (Nat.not_lt_zero w)
  · exact z
theorem in_v {x lo hi : Int32} : zPa d mX12_in [.inl x, .inl lo, .inl hi] h (fun v g => v = some (.inl (if lo.toInt ≤ x.toInt ∧ x.toInt ≤ hi.toInt then 1 else 0)) ∧ g = h) := in_ex2.mono (fun v g hq => by
  obtain ⟨e, hq⟩ := hq
  rcases hq with ⟨ev, a, b⟩ | ⟨ev, a⟩
  · rw [if_pos ⟨Int32.le_iff_toInt_le.mp a, Int32.le_iff_toInt_le.mp b⟩]
    exact ⟨ev, e⟩
  · rw [if_neg (fun q => a ⟨Int32.le_iff_toInt_le.mpr q.1, Int32.le_iff_toInt_le.mpr q.2⟩)]
    exact ⟨ev, e⟩)
theorem N_whale11 (z : lZ A c s H J h) (hi : lInv t h) : zPa d mX11_whale [.inr (.inr (some 0)), .inl x, .inl y] h (fun v _ => v = some (.inl (whV A s x y))) := by
  intro N
  have h1 := hi.2.2.2.2.1
  have hA := z.1.1
  have hT := z.1.2.1
  have hB := z.1.2.2
  have hI := hA.1
  have hN := z.2.1.1
  have K := hA.2.2.2.1
  have hc2 : c = 2 ∨ c = 42 := hA.2.1
  obtain ⟨b1, b2, b3, b4, b5⟩ := hI.2.2.1
  have s0 : zsh h 0 = some (11, 16) := zsh_by h1 (by decide +kernel)
  obtain ⟨sc, sc1, sc2, sc4, sc5, scw, scb⟩ := cSh hA.2.1 h1
  obtain ⟨c9, c12, c13, cw, cb⟩ := cRf_of hi.1 hA.2.1
  have S := hi.nw
  obtain ⟨⟨s86, s87, s88, s89, s90, s91⟩, r87, r88, r89, r90, r91⟩ := S.o86
  have r3 := hA.2.2.1
  have r6 := S.2.1
  obtain ⟨n1, n2, n3, n4⟩ := z.2.2.1.1
  show zPn N none d mX11_whale (0, [(0, .inr (.inr (some 0))), (1, .inl x), (2, .inl y)], [], h) _
  refine pa_aload_n (pc' := 1) dX11_whale_0 rfl rfl ?_
  refine pa_iload_n (pc' := 2) dX11_whale_1 rfl rfl ?_
  refine pa_callv (pc' := 5) (vs := [.inl x]) (rest := []) dX11_whale_2 ml_11_121 (by decide) rfl rfl rfl (fun d' _ => (N_isWhale hA h1)) (fun v g9 hq => ?_)
  obtain ⟨ev, eh⟩ := hq
  subst ev
  rw [eh]
  show zPn N none d mX11_whale (5, _, [.inl (if 0 ≤ x.toInt ∧ x.toInt < (cH A:Int) then 1 else 0)], h) _
  by_cases hx : 0 ≤ x.toInt ∧ x.toInt < (cH A : Int)
  case neg =>
    rw [if_neg hx]
    refine pa_if_f (pc' := 8) dX11_whale_5 (by decide) (by decide) rfl ?_
    refine pa_aload_n (pc' := 9) dX11_whale_8 rfl rfl ?_
    refine pa_iconst (v := nI 1) (pc' := 10) dX11_whale_9 (by decide) rfl ?_
    refine pa_callv (pc' := 13) (vs := [.inl (nI 1)]) (rest := []) dX11_whale_10 ml_11_98 (by decide) rfl rfl rfl (fun d' _ => (c_ref s0)) (fun v g hq => ?_)
    obtain ⟨ev, eh⟩ := hq
    subst ev
    show zPn N none d mX11_whale (13, _, [.inl ((-1))], g) _
    refine pa_iret dX11_whale_13 rfl rfl ?_
    unfold whV
    rw [if_neg (fun q => hx q.1)]
  obtain ⟨w, rfl, hw, ew⟩ := nI_ob hx.1 hx.2
  rw [if_pos hx]
  refine pa_if_t (pc' := 14) dX11_whale_5 (by decide) (by decide) ?_
  refine pa_iload_n (pc' := 15) dX11_whale_14 rfl rfl ?_
  by_cases hy : 0 ≤ y.toInt ∧ y.toInt < 5
  case neg =>
    refine pa_switch (pc' := 127) dX11_whale_15 (fun _ => rfl) (fun q => absurd (show y.toInt < 0 ∨ 4 < y.toInt by omega) q) ?_
    refine pa_aload_n (pc' := 128) dX11_whale_127 rfl rfl ?_
    refine pa_iconst (v := nI 1) (pc' := 129) dX11_whale_128 (by decide) rfl ?_
    refine pa_callv (pc' := 132) (vs := [.inl (nI 1)]) (rest := []) dX11_whale_129 ml_11_98 (by decide) rfl rfl rfl (fun d' _ => (c_ref s0)) (fun v g hq => ?_)
    obtain ⟨ev, eh⟩ := hq
    subst ev
    show zPn N none d mX11_whale (132, _, [.inl ((-1))], g) _
    refine pa_iret dX11_whale_132 rfl rfl ?_
    unfold whV
    rw [if_neg (fun q => hy q.2)]
  obtain ⟨q, rfl, hq, eq⟩ := nI_ob (n := 5) hy.1 hy.2
  have V : whV A s (nI w) (nI q) = whF A s w q := by
    unfold whV
    rw [if_pos ⟨hx, hy⟩, ew, eq]
  rw [V]
  clear V eq
  have hq : q = 0 ∨ q = 1 ∨ q = 2 ∨ q = 3 ∨ q = 4 := by omega
  rcases hq with rfl | rfl | rfl | rfl | rfl
  · refine pa_switch (pc' := 48) dX11_whale_15 (fun e => absurd e (by decide)) (fun _ => ⟨33, by decide, rfl⟩) ?_
    have sw := scw w (by omega)
    have rw_ := cw w (by omega)
    have q : h.2.1 (c + 19 + w) 0 = kdA A w := K.wh (j := 0) hT hI hw (by decide)
    refine pa_aload_n (pc' := 49) dX11_whale_48 rfl rfl ?_
    refine pa_aload_n (pc' := 50) dX11_whale_49 rfl rfl ?_
    refine pa_getR (pc' := 53) (n := 16) (r := c) dX11_whale_50 fl_11_23 s0 (by decide) r3 rfl ?_
    refine pa_getR (pc' := 56) (n := 15) (r := c + 4) dX11_whale_53 fl_11_125 sc (by decide) c12 rfl ?_
    refine pa_iload_n (pc' := 57) dX11_whale_56 rfl rfl ?_
    refine pa_aald (pc' := 58) (r := c + 19 + w) dX11_whale_57 sc4 (by decide) (zn_in (by omega) (by omega)) (by rw [nI_clamp (by omega)]; exact rw_) rfl ?_
    refine pa_getI (pc' := 61) (n := 4) (v := kdA A w) dX11_whale_58 fl_11_129 sw (by decide) q rfl ?_
    refine pa_callv (pc' := 64) (vs := [.inl (kdA A w)]) (rest := []) dX11_whale_61 ml_11_112 (by decide) rfl rfl rfl (fun d' _ => (c_gra s0)) (fun v g hq => ?_)
    obtain ⟨ev, eh⟩ := hq
    subst ev
    show zPn N none d mX11_whale (64, _, [.inl ((kdA A w))], g) _
    refine pa_iret dX11_whale_64 rfl rfl ?_
    rfl
  · refine pa_switch (pc' := 65) dX11_whale_15 (fun e => absurd e (by decide)) (fun _ => ⟨50, by decide, rfl⟩) ?_
    have q : h.2.1 87 w = nI (s.2.2.1 w) := (n3 w hw).1
    refine pa_aload_n (pc' := 66) dX11_whale_65 rfl rfl ?_
    refine pa_aload_n (pc' := 67) dX11_whale_66 rfl rfl ?_
    refine pa_getR (pc' := 70) (n := 16) (r := 86) dX11_whale_67 fl_11_42 s0 (by decide) r6 rfl ?_
    refine pa_getR (pc' := 73) (n := 7) (r := 87) dX11_whale_70 fl_11_134 s86 (by decide) r87 rfl ?_
    refine pa_iload_n (pc' := 74) dX11_whale_73 rfl rfl ?_
    refine pa_iald (pc' := 75) dX11_whale_74 s87 rfl (fun _ => ?_)
    rw [nI_clamp (by omega), q]
    refine pa_callv (pc' := 78) (vs := [.inl (nI (s.2.2.1 w))]) (rest := []) dX11_whale_75 ml_11_112 (by decide) rfl rfl rfl (fun d' _ => (c_gra s0)) (fun v g hq => ?_)
    obtain ⟨ev, eh⟩ := hq
    subst ev
    show zPn N none d mX11_whale (78, _, [.inl (nI ((s.2.2.1 w)))], g) _
    refine pa_iret dX11_whale_78 rfl rfl ?_
    rfl
  · refine pa_switch (pc' := 79) dX11_whale_15 (fun e => absurd e (by decide)) (fun _ => ⟨64, by decide, rfl⟩) ?_
    have q : h.2.1 88 w = nI (s.2.2.2.1 w) := (n3 w hw).2
    refine pa_aload_n (pc' := 80) dX11_whale_79 rfl rfl ?_
    refine pa_aload_n (pc' := 81) dX11_whale_80 rfl rfl ?_
    refine pa_getR (pc' := 84) (n := 16) (r := 86) dX11_whale_81 fl_11_42 s0 (by decide) r6 rfl ?_
    refine pa_getR (pc' := 87) (n := 7) (r := 88) dX11_whale_84 fl_11_138 s86 (by decide) r88 rfl ?_
    refine pa_iload_n (pc' := 88) dX11_whale_87 rfl rfl ?_
    refine pa_iald (pc' := 89) dX11_whale_88 s88 rfl (fun _ => ?_)
    rw [nI_clamp (by omega), q]
    refine pa_callv (pc' := 92) (vs := [.inl (nI (s.2.2.2.1 w))]) (rest := []) dX11_whale_89 ml_11_112 (by decide) rfl rfl rfl (fun d' _ => (c_gra s0)) (fun v g hq => ?_)
    obtain ⟨ev, eh⟩ := hq
    subst ev
    show zPn N none d mX11_whale (92, _, [.inl (nI ((s.2.2.2.1 w)))], g) _
    refine pa_iret dX11_whale_92 rfl rfl ?_
    rfl
  · refine pa_switch (pc' := 93) dX11_whale_15 (fun e => absurd e (by decide)) (fun _ => ⟨78, by decide, rfl⟩) ?_
    have sw := scw w (by omega)
    have rw_ := cw w (by omega)
    have q : h.2.1 (c + 19 + w) 2 = nI (nu A (109 + 4 * w)) := by rw [K.wh hT hI hw (by decide), (num_whale hI hB hT hw).2.2.2.2 2 (by decide), show 107 + 4 * w + 2 = 109 + 4 * w by omega]
    refine pa_aload_n (pc' := 94) dX11_whale_93 rfl rfl ?_
    refine pa_aload_n (pc' := 95) dX11_whale_94 rfl rfl ?_
    refine pa_getR (pc' := 98) (n := 16) (r := c) dX11_whale_95 fl_11_23 s0 (by decide) r3 rfl ?_
    refine pa_getR (pc' := 101) (n := 15) (r := c + 4) dX11_whale_98 fl_11_125 sc (by decide) c12 rfl ?_
    refine pa_iload_n (pc' := 102) dX11_whale_101 rfl rfl ?_
    refine pa_aald (pc' := 103) (r := c + 19 + w) dX11_whale_102 sc4 (by decide) (zn_in (by omega) (by omega)) (by rw [nI_clamp (by omega)]; exact rw_) rfl ?_
    refine pa_getI (pc' := 106) (n := 4) (v := nI (nu A (109 + 4 * w))) dX11_whale_103 fl_11_141 sw (by decide) q rfl ?_
    refine pa_callv (pc' := 109) (vs := [.inl (nI (nu A (109 + 4 * w)))]) (rest := []) dX11_whale_106 ml_11_112 (by decide) rfl rfl rfl (fun d' _ => (c_gra s0)) (fun v g hq => ?_)
    obtain ⟨ev, eh⟩ := hq
    subst ev
    show zPn N none d mX11_whale (109, _, [.inl (nI ((nu A (109 + 4 * w))))], g) _
    refine pa_iret dX11_whale_109 rfl rfl ?_
    rfl
  · refine pa_switch (pc' := 110) dX11_whale_15 (fun e => absurd e (by decide)) (fun _ => ⟨95, by decide, rfl⟩) ?_
    have sw := scw w (by omega)
    have rw_ := cw w (by omega)
    have q : h.2.1 (c + 19 + w) 3 = nI (nu A (110 + 4 * w)) := by rw [K.wh hT hI hw (by decide), (num_whale hI hB hT hw).2.2.2.2 3 (by decide), show 107 + 4 * w + 3 = 110 + 4 * w by omega]
    refine pa_aload_n (pc' := 111) dX11_whale_110 rfl rfl ?_
    refine pa_aload_n (pc' := 112) dX11_whale_111 rfl rfl ?_
    refine pa_getR (pc' := 115) (n := 16) (r := c) dX11_whale_112 fl_11_23 s0 (by decide) r3 rfl ?_
    refine pa_getR (pc' := 118) (n := 15) (r := c + 4) dX11_whale_115 fl_11_125 sc (by decide) c12 rfl ?_
    refine pa_iload_n (pc' := 119) dX11_whale_118 rfl rfl ?_
    refine pa_aald (pc' := 120) (r := c + 19 + w) dX11_whale_119 sc4 (by decide) (zn_in (by omega) (by omega)) (by rw [nI_clamp (by omega)]; exact rw_) rfl ?_
    refine pa_getI (pc' := 123) (n := 4) (v := nI (nu A (110 + 4 * w))) dX11_whale_120 fl_11_144 sw (by decide) q rfl ?_
    refine pa_callv (pc' := 126) (vs := [.inl (nI (nu A (110 + 4 * w)))]) (rest := []) dX11_whale_123 ml_11_112 (by decide) rfl rfl rfl (fun d' _ => (c_gra s0)) (fun v g hq => ?_)
    obtain ⟨ev, eh⟩ := hq
    subst ev
    show zPn N none d mX11_whale (126, _, [.inl (nI ((nu A (110 + 4 * w))))], g) _
    refine pa_iret dX11_whale_126 rfl rfl ?_
    rfl
theorem N_box11 (z : lZ A c s H J h) (hi : lInv t h) : zPa d mX11_box [.inr (.inr (some 0)), .inl x, .inl y] h (fun v _ => v = some (.inl (boV A s x y))) := by
  intro N
  have h1 := hi.2.2.2.2.1
  have hA := z.1.1
  have hT := z.1.2.1
  have hB := z.1.2.2
  have hI := hA.1
  have hN := z.2.1.1
  have K := hA.2.2.2.1
  have hc2 : c = 2 ∨ c = 42 := hA.2.1
  obtain ⟨b1, b2, b3, b4, b5⟩ := hI.2.2.1
  have s0 : zsh h 0 = some (11, 16) := zsh_by h1 (by decide +kernel)
  obtain ⟨sc, sc1, sc2, sc4, sc5, scw, scb⟩ := cSh hA.2.1 h1
  obtain ⟨c9, c12, c13, cw, cb⟩ := cRf_of hi.1 hA.2.1
  have S := hi.nw
  obtain ⟨⟨s86, s87, s88, s89, s90, s91⟩, r87, r88, r89, r90, r91⟩ := S.o86
  have r3 := hA.2.2.1
  have r6 := S.2.1
  obtain ⟨n1, n2, n3, n4⟩ := z.2.2.1.1
  show zPn N none d mX11_box (0, [(0, .inr (.inr (some 0))), (1, .inl x), (2, .inl y)], [], h) _
  refine pa_aload_n (pc' := 1) dX11_box_0 rfl rfl ?_
  refine pa_iload_n (pc' := 2) dX11_box_1 rfl rfl ?_
  refine pa_callv (pc' := 5) (vs := [.inl x]) (rest := []) dX11_box_2 ml_11_147 (by decide) rfl rfl rfl (fun d' _ => (N_isBox hA h1)) (fun v g9 hq => ?_)
  obtain ⟨ev, eh⟩ := hq
  subst ev
  rw [eh]
  show zPn N none d mX11_box (5, _, [.inl (if 0 ≤ x.toInt ∧ x.toInt < (cB A:Int) then 1 else 0)], h) _
  by_cases hx : 0 ≤ x.toInt ∧ x.toInt < (cB A : Int)
  case neg =>
    rw [if_neg hx]
    refine pa_if_f (pc' := 8) dX11_box_5 (by decide) (by decide) rfl ?_
    refine pa_aload_n (pc' := 9) dX11_box_8 rfl rfl ?_
    refine pa_iconst (v := nI 1) (pc' := 10) dX11_box_9 (by decide) rfl ?_
    refine pa_callv (pc' := 13) (vs := [.inl (nI 1)]) (rest := []) dX11_box_10 ml_11_98 (by decide) rfl rfl rfl (fun d' _ => (c_ref s0)) (fun v g hq => ?_)
    obtain ⟨ev, eh⟩ := hq
    subst ev
    show zPn N none d mX11_box (13, _, [.inl ((-1))], g) _
    refine pa_iret dX11_box_13 rfl rfl ?_
    unfold boV
    rw [if_neg (fun q => hx q.1)]
  obtain ⟨w, rfl, hw, ew⟩ := nI_ob hx.1 hx.2
  rw [if_pos hx]
  refine pa_if_t (pc' := 14) dX11_box_5 (by decide) (by decide) ?_
  refine pa_iload_n (pc' := 15) dX11_box_14 rfl rfl ?_
  by_cases hy : 0 ≤ y.toInt ∧ y.toInt < 6
  case neg =>
    refine pa_switch (pc' := 148) dX11_box_15 (fun _ => rfl) (fun q => absurd (show y.toInt < 0 ∨ 5 < y.toInt by omega) q) ?_
    refine pa_aload_n (pc' := 149) dX11_box_148 rfl rfl ?_
    refine pa_iconst (v := nI 1) (pc' := 150) dX11_box_149 (by decide) rfl ?_
    refine pa_callv (pc' := 153) (vs := [.inl (nI 1)]) (rest := []) dX11_box_150 ml_11_98 (by decide) rfl rfl rfl (fun d' _ => (c_ref s0)) (fun v g hq => ?_)
    obtain ⟨ev, eh⟩ := hq
    subst ev
    show zPn N none d mX11_box (153, _, [.inl ((-1))], g) _
    refine pa_iret dX11_box_153 rfl rfl ?_
    unfold boV
    rw [if_neg (fun q => hy q.2)]
  obtain ⟨q, rfl, hq, eq⟩ := nI_ob (n := 6) hy.1 hy.2
  have V : boV A s (nI w) (nI q) = boF A s w q := by
    unfold boV
    rw [if_pos ⟨hx, hy⟩, ew, eq]
  rw [V]
  clear V eq
  have hq : q = 0 ∨ q = 1 ∨ q = 2 ∨ q = 3 ∨ q = 4 ∨ q = 5 := by omega
  rcases hq with rfl | rfl | rfl | rfl | rfl | rfl
  · refine pa_switch (pc' := 52) dX11_box_15 (fun e => absurd e (by decide)) (fun _ => ⟨37, by decide, rfl⟩) ?_
    have sb := scb w (by omega)
    have rb := cb w (by omega)
    have q : h.2.1 (c + 24 + w) 0 = nI (nu A (127 + 4 * w)) := by
      rw [K.bo hT hI hw (by decide), (num_box hI hB hT hw).2.2.2.2 0 (by decide)]
      exact congrArg (fun v => nI (nu A v)) (by omega)
    refine pa_aload_n (pc' := 53) dX11_box_52 rfl rfl ?_
    refine pa_aload_n (pc' := 54) dX11_box_53 rfl rfl ?_
    refine pa_getR (pc' := 57) (n := 16) (r := c) dX11_box_54 fl_11_23 s0 (by decide) r3 rfl ?_
    refine pa_getR (pc' := 60) (n := 15) (r := c + 5) dX11_box_57 fl_11_150 sc (by decide) c13 rfl ?_
    refine pa_iload_n (pc' := 61) dX11_box_60 rfl rfl ?_
    refine pa_aald (pc' := 62) (r := c + 24 + w) dX11_box_61 sc5 (by decide) (zn_in (by omega) (by omega)) (by rw [nI_clamp (by omega)]; exact rb) rfl ?_
    refine pa_getI (pc' := 65) (n := 4) (v := nI (nu A (127 + 4 * w))) dX11_box_62 fl_11_154 sb (by decide) q rfl ?_
    refine pa_callv (pc' := 68) (vs := [.inl (nI (nu A (127 + 4 * w)))]) (rest := []) dX11_box_65 ml_11_112 (by decide) rfl rfl rfl (fun d' _ => (c_gra s0)) (fun v g hq => ?_)
    obtain ⟨ev, eh⟩ := hq
    subst ev
    show zPn N none d mX11_box (68, _, [.inl (nI ((nu A (127 + 4 * w))))], g) _
    refine pa_iret dX11_box_68 rfl rfl ?_
    rfl
  · refine pa_switch (pc' := 69) dX11_box_15 (fun e => absurd e (by decide)) (fun _ => ⟨54, by decide, rfl⟩) ?_
    have sb := scb w (by omega)
    have rb := cb w (by omega)
    have q : h.2.1 (c + 24 + w) 1 = nI (nu A (128 + 4 * w)) := by
      rw [K.bo hT hI hw (by decide), (num_box hI hB hT hw).2.2.2.2 1 (by decide)]
      exact congrArg (fun v => nI (nu A v)) (by omega)
    refine pa_aload_n (pc' := 70) dX11_box_69 rfl rfl ?_
    refine pa_aload_n (pc' := 71) dX11_box_70 rfl rfl ?_
    refine pa_getR (pc' := 74) (n := 16) (r := c) dX11_box_71 fl_11_23 s0 (by decide) r3 rfl ?_
    refine pa_getR (pc' := 77) (n := 15) (r := c + 5) dX11_box_74 fl_11_150 sc (by decide) c13 rfl ?_
    refine pa_iload_n (pc' := 78) dX11_box_77 rfl rfl ?_
    refine pa_aald (pc' := 79) (r := c + 24 + w) dX11_box_78 sc5 (by decide) (zn_in (by omega) (by omega)) (by rw [nI_clamp (by omega)]; exact rb) rfl ?_
    refine pa_getI (pc' := 82) (n := 4) (v := nI (nu A (128 + 4 * w))) dX11_box_79 fl_11_159 sb (by decide) q rfl ?_
    refine pa_callv (pc' := 85) (vs := [.inl (nI (nu A (128 + 4 * w)))]) (rest := []) dX11_box_82 ml_11_112 (by decide) rfl rfl rfl (fun d' _ => (c_gra s0)) (fun v g hq => ?_)
    obtain ⟨ev, eh⟩ := hq
    subst ev
    show zPn N none d mX11_box (85, _, [.inl (nI ((nu A (128 + 4 * w))))], g) _
    refine pa_iret dX11_box_85 rfl rfl ?_
    rfl
  · refine pa_switch (pc' := 86) dX11_box_15 (fun e => absurd e (by decide)) (fun _ => ⟨71, by decide, rfl⟩) ?_
    have sb := scb w (by omega)
    have rb := cb w (by omega)
    have q : h.2.1 (c + 24 + w) 2 = nI (nu A (129 + 4 * w)) := by
      rw [K.bo hT hI hw (by decide), (num_box hI hB hT hw).2.2.2.2 2 (by decide)]
      exact congrArg (fun v => nI (nu A v)) (by omega)
    refine pa_aload_n (pc' := 87) dX11_box_86 rfl rfl ?_
    refine pa_aload_n (pc' := 88) dX11_box_87 rfl rfl ?_
    refine pa_getR (pc' := 91) (n := 16) (r := c) dX11_box_88 fl_11_23 s0 (by decide) r3 rfl ?_
    refine pa_getR (pc' := 94) (n := 15) (r := c + 5) dX11_box_91 fl_11_150 sc (by decide) c13 rfl ?_
    refine pa_iload_n (pc' := 95) dX11_box_94 rfl rfl ?_
    refine pa_aald (pc' := 96) (r := c + 24 + w) dX11_box_95 sc5 (by decide) (zn_in (by omega) (by omega)) (by rw [nI_clamp (by omega)]; exact rb) rfl ?_
    refine pa_getI (pc' := 99) (n := 4) (v := nI (nu A (129 + 4 * w))) dX11_box_96 fl_11_162 sb (by decide) q rfl ?_
    refine pa_callv (pc' := 102) (vs := [.inl (nI (nu A (129 + 4 * w)))]) (rest := []) dX11_box_99 ml_11_112 (by decide) rfl rfl rfl (fun d' _ => (c_gra s0)) (fun v g hq => ?_)
    obtain ⟨ev, eh⟩ := hq
    subst ev
    show zPn N none d mX11_box (102, _, [.inl (nI ((nu A (129 + 4 * w))))], g) _
    refine pa_iret dX11_box_102 rfl rfl ?_
    rfl
  · refine pa_switch (pc' := 103) dX11_box_15 (fun e => absurd e (by decide)) (fun _ => ⟨88, by decide, rfl⟩) ?_
    have sb := scb w (by omega)
    have rb := cb w (by omega)
    have q : h.2.1 (c + 24 + w) 3 = nI (nu A (130 + 4 * w)) := by
      rw [K.bo hT hI hw (by decide), (num_box hI hB hT hw).2.2.2.2 3 (by decide)]
      exact congrArg (fun v => nI (nu A v)) (by omega)
    refine pa_aload_n (pc' := 104) dX11_box_103 rfl rfl ?_
    refine pa_aload_n (pc' := 105) dX11_box_104 rfl rfl ?_
    refine pa_getR (pc' := 108) (n := 16) (r := c) dX11_box_105 fl_11_23 s0 (by decide) r3 rfl ?_
    refine pa_getR (pc' := 111) (n := 15) (r := c + 5) dX11_box_108 fl_11_150 sc (by decide) c13 rfl ?_
    refine pa_iload_n (pc' := 112) dX11_box_111 rfl rfl ?_
    refine pa_aald (pc' := 113) (r := c + 24 + w) dX11_box_112 sc5 (by decide) (zn_in (by omega) (by omega)) (by rw [nI_clamp (by omega)]; exact rb) rfl ?_
    refine pa_getI (pc' := 116) (n := 4) (v := nI (nu A (130 + 4 * w))) dX11_box_113 fl_11_165 sb (by decide) q rfl ?_
    refine pa_callv (pc' := 119) (vs := [.inl (nI (nu A (130 + 4 * w)))]) (rest := []) dX11_box_116 ml_11_112 (by decide) rfl rfl rfl (fun d' _ => (c_gra s0)) (fun v g hq => ?_)
    obtain ⟨ev, eh⟩ := hq
    subst ev
    show zPn N none d mX11_box (119, _, [.inl (nI ((nu A (130 + 4 * w))))], g) _
    refine pa_iret dX11_box_119 rfl rfl ?_
    rfl
  · refine pa_switch (pc' := 120) dX11_box_15 (fun e => absurd e (by decide)) (fun _ => ⟨105, by decide, rfl⟩) ?_
    have q : h.2.1 89 w = sDy (s.2.2.2.2.1 w) := (n4 w hw).1
    refine pa_aload_n (pc' := 121) dX11_box_120 rfl rfl ?_
    refine pa_aload_n (pc' := 122) dX11_box_121 rfl rfl ?_
    refine pa_getR (pc' := 125) (n := 16) (r := 86) dX11_box_122 fl_11_42 s0 (by decide) r6 rfl ?_
    refine pa_getR (pc' := 128) (n := 7) (r := 89) dX11_box_125 fl_11_168 s86 (by decide) r89 rfl ?_
    refine pa_iload_n (pc' := 129) dX11_box_128 rfl rfl ?_
    refine pa_iald (pc' := 130) dX11_box_129 s89 rfl (fun _ => ?_)
    rw [nI_clamp (by omega), q]
    refine pa_callv (pc' := 133) (vs := [.inl (sDy (s.2.2.2.2.1 w))]) (rest := []) dX11_box_130 ml_11_112 (by decide) rfl rfl rfl (fun d' _ => (c_gra s0)) (fun v g hq => ?_)
    obtain ⟨ev, eh⟩ := hq
    subst ev
    show zPn N none d mX11_box (133, _, [.inl ((sDy (s.2.2.2.2.1 w)))], g) _
    refine pa_iret dX11_box_133 rfl rfl ?_
    rfl
  · refine pa_switch (pc' := 134) dX11_box_15 (fun e => absurd e (by decide)) (fun _ => ⟨119, by decide, rfl⟩) ?_
    have q : h.2.1 90 w = sGo (s.2.2.2.2.1 w) := (n4 w hw).2.1
    refine pa_aload_n (pc' := 135) dX11_box_134 rfl rfl ?_
    refine pa_aload_n (pc' := 136) dX11_box_135 rfl rfl ?_
    refine pa_getR (pc' := 139) (n := 16) (r := 86) dX11_box_136 fl_11_42 s0 (by decide) r6 rfl ?_
    refine pa_getR (pc' := 142) (n := 7) (r := 90) dX11_box_139 fl_11_171 s86 (by decide) r90 rfl ?_
    refine pa_iload_n (pc' := 143) dX11_box_142 rfl rfl ?_
    refine pa_iald (pc' := 144) dX11_box_143 s90 rfl (fun _ => ?_)
    rw [nI_clamp (by omega), q]
    refine pa_callv (pc' := 147) (vs := [.inl (sGo (s.2.2.2.2.1 w))]) (rest := []) dX11_box_144 ml_11_112 (by decide) rfl rfl rfl (fun d' _ => (c_gra s0)) (fun v g hq => ?_)
    obtain ⟨ev, eh⟩ := hq
    subst ev
    show zPn N none d mX11_box (147, _, [.inl ((sGo (s.2.2.2.2.1 w)))], g) _
    refine pa_iret dX11_box_147 rfl rfl ?_
    rfl
theorem N_whale12 (z : lZ A c s H J g) (m : lMid kk im t g h) : zPa d mX12_whale [.inr (.inr (some 196)), .inl x, .inl y] h (fun v _ => v = some (.inl (whV A s x y))) := by
  intro N
  have s196 : zsh h 196 = some (12, 39) := zsh_by m.2.1.2.2.2 (by decide +kernel)
  generalize eg : zsI (zsI h 196 0 0) 196 11 0 = h2
  have e2 : ∀ a k, a ≠ 196 → h2.2.1 a k = h.2.1 a k := fun a k ha => by rw [← eg, zsI_no (by omega), zsI_no (by omega)]
  have e3 : ∀ k, k ≠ 0 → k ≠ 11 → h2.2.1 196 k = h.2.1 196 k := fun k w1 w2 => by rw [← eg, zsI_no (by omega), zsI_no (by omega)]
  have h1 : h2.1 = hh_487.1 := by rw [← eg]; exact m.2.1.2.2.2
  have hA : lPA A c h2 := by rw [← eg]; exact (m.pa z.1.1).gd
  have B : cI A ≠ 0 → bgM A s h2 := fun ne => by rw [← eg]; exact (z.bm m ne).gd
  have er : h2.2.2.2.1 = h.2.2.2.1 := by rw [← eg]; rfl
  have q15 : h2.2.2.2.1 196 15 = some 199 := by rw [er]; exact m.r15
  have q17 : h2.2.2.2.1 196 17 = some 201 := by rw [er]; exact m.mw.2.1
  have z196 : zsh h2 196 = some (12, 39) := zsh_by h1 (by decide +kernel)
  have z199 : zsh h2 199 = some (14, 363) := zsh_by h1 (by decide +kernel)
  have z201 : zsh h2 201 = some (14, 76) := zsh_by h1 (by decide +kernel)
  have M : nMo A s 201 0 h2 := (z.lm m).1.1.fr (fun k => e2 _ _ (by decide))
  have hT := z.1.2.1
  have hB := z.1.2.2
  have hI := z.1.1.1
  have hN := z.2.1.1
  have k0 : (0 : Int32).toInt = 0 := by decide
  obtain ⟨b1, b2, b3, b4, b5⟩ := hI.2.2.1
  show zPn N none d mX12_whale (0, [(0, .inr (.inr (some 196))), (1, .inl x), (2, .inl y)], [], h) _
  refine pa_aload_n (pc' := 1) dX12_whale_0 rfl rfl ?_
  refine pa_callv (pc' := 4) (vs := []) (rest := []) dX12_whale_1 ml_12_167 (by decide) rfl rfl rfl (fun d' _ => (m_good s196)) (fun v h3 hq => ?_)
  obtain ⟨ev, eh⟩ := hq
  subst ev
  show zPn N none d mX12_whale (4, _, [], h3) _
  rw [eg] at eh
  subst eh
  refine pa_aload_n (pc' := 5) dX12_whale_4 rfl rfl ?_
  refine pa_iload_n (pc' := 6) dX12_whale_5 rfl rfl ?_
  refine pa_callv (pc' := 9) (vs := [.inl x]) (rest := []) dX12_whale_6 ml_12_268 (by decide) rfl rfl rfl (fun d' _ => (M_isWhale hA q15 h1)) (fun v g9 hq => ?_)
  obtain ⟨ev, eh⟩ := hq
  subst ev
  rw [eh]
  show zPn N none d mX12_whale (9, _, [.inl (if 0 ≤ x.toInt ∧ x.toInt < (cH A:Int) then 1 else 0)], h3) _
  by_cases hx : 0 ≤ x.toInt ∧ x.toInt < (cH A : Int)
  case neg =>
    rw [if_neg hx]
    refine pa_if_t (pc' := 21) dX12_whale_9 (by decide) (by decide) ?_
    refine pa_aload_n (pc' := 22) dX12_whale_21 rfl rfl ?_
    refine pa_iconst (v := nI 1) (pc' := 23) dX12_whale_22 (by decide) rfl ?_
    refine pa_callv (pc' := 26) (vs := [.inl (nI 1)]) (rest := []) dX12_whale_23 ml_12_170 (by decide) rfl rfl rfl (fun d' _ => (m_no z196)) (fun v g hq => ?_)
    obtain ⟨ev, eh⟩ := hq
    subst ev
    show zPn N none d mX12_whale (26, _, [.inl ((-1))], g) _
    refine pa_iret dX12_whale_26 rfl rfl ?_
    unfold whV
    rw [if_neg (fun q => hx q.1)]
  obtain ⟨w, rfl, hw, ew⟩ := nI_ob hx.1 hx.2
  rw [if_pos hx]
  refine pa_if_f (pc' := 12) dX12_whale_9 (by decide) (by decide) rfl ?_
  refine pa_iload_n (pc' := 13) dX12_whale_12 rfl rfl ?_
  refine pa_iconst (v := 0) (pc' := 14) dX12_whale_13 (by decide) rfl ?_
  refine pa_iconst (v := 4) (pc' := 15) dX12_whale_14 (by decide) rfl ?_
  refine pa_calls (pc' := 18) (kd := 1) (vs := [.inl y, .inl 0, .inl 4]) (rest := []) dX12_whale_15 ml_12_149 (.inl rfl) rfl rfl rfl (fun d' _ => in_v) (fun v g9 hq => ?_)
  obtain ⟨ev, eh⟩ := hq
  subst ev
  rw [eh]
  show zPn N none d mX12_whale (18, _, [.inl (if ((0 : Int32)).toInt ≤ (y).toInt ∧ (y).toInt ≤ ((4 : Int32)).toInt then 1 else 0)], h3) _
  rw [k0, show (4 : Int32).toInt = 4 by decide]
  by_cases hy : 0 ≤ y.toInt ∧ y.toInt ≤ 4
  case neg =>
    rw [if_neg hy]
    refine pa_if_f (pc' := 21) dX12_whale_18 (by decide) (by decide) rfl ?_
    refine pa_aload_n (pc' := 22) dX12_whale_21 rfl rfl ?_
    refine pa_iconst (v := nI 1) (pc' := 23) dX12_whale_22 (by decide) rfl ?_
    refine pa_callv (pc' := 26) (vs := [.inl (nI 1)]) (rest := []) dX12_whale_23 ml_12_170 (by decide) rfl rfl rfl (fun d' _ => (m_no z196)) (fun v g hq => ?_)
    obtain ⟨ev, eh⟩ := hq
    subst ev
    show zPn N none d mX12_whale (26, _, [.inl ((-1))], g) _
    refine pa_iret dX12_whale_26 rfl rfl ?_
    unfold whV
    rw [if_neg (fun q => hy (by omega))]
  rw [if_pos hy]
  have hy : 0 ≤ y.toInt ∧ y.toInt < 5 := by omega
  refine pa_if_t (pc' := 27) dX12_whale_18 (by decide) (by decide) ?_
  obtain ⟨q, rfl, hq, eq⟩ := nI_ob (n := 5) hy.1 hy.2
  have V : whV A s (nI w) (nI q) = whF A s w q := by
    unfold whV
    rw [if_pos ⟨hx, hy⟩, ew, eq]
  rw [V]
  clear V eq
  have B := B (hA.hasH hw)
  refine pa_iload_n (pc' := 28) dX12_whale_27 rfl rfl ?_
  have hq : q = 0 ∨ q = 1 ∨ q = 2 ∨ q = 3 ∨ q = 4 := by omega
  rcases hq with rfl | rfl | rfl | rfl | rfl
  · refine pa_switch (pc' := 56) dX12_whale_28 (fun e => absurd e (by decide)) (fun _ => ⟨28, by decide, rfl⟩) ?_
    refine pa_aload_n (pc' := 57) dX12_whale_56 rfl rfl ?_
    refine pa_iload_n (pc' := 58) dX12_whale_57 rfl rfl ?_
    refine pa_iconst (v := nI 0) (pc' := 59) dX12_whale_58 (by decide) rfl ?_
    refine pa_callv (pc' := 62) (vs := [.inl (nI w), .inl (nI 0)]) (rest := []) dX12_whale_59 ml_12_271 (by decide) rfl rfl rfl (fun d' _ => (M_ofWhale B hw (by decide))) (fun v g9 hq => ?_)
    obtain ⟨ev, eh⟩ := hq
    subst ev
    rw [eh]
    show zPn N none d mX12_whale (62, _, [.inl (vA A (107 + 4 * w + 0))], h3) _
    refine pa_iret dX12_whale_62 rfl rfl ?_
    rfl
  · refine pa_switch (pc' := 63) dX12_whale_28 (fun e => absurd e (by decide)) (fun _ => ⟨35, by decide, rfl⟩) ?_
    have q : h3.2.1 201 (2 + w) = nI (s.2.2.1 w) := by rw [← (M.2.2.1 w hw).1, Nat.zero_add]
    refine pa_aload_n (pc' := 64) dX12_whale_63 rfl rfl ?_
    refine pa_getR (pc' := 67) (n := 39) (r := 201) dX12_whale_64 fl_12_26 z196 (by decide) q17 rfl ?_
    refine pa_iconst (v := nI 2) (pc' := 68) dX12_whale_67 (by decide) rfl ?_
    refine pa_iload_n (pc' := 69) dX12_whale_68 rfl rfl ?_
    refine pa_iadd (pc' := 70) (v := nI (2 + w)) dX12_whale_69 (nI_add _ _) rfl ?_
    refine pa_iald (pc' := 71) dX12_whale_70 z201 rfl (fun _ => ?_)
    rw [nI_clamp (by omega), q]
    refine pa_iret dX12_whale_71 rfl rfl ?_
    rfl
  · refine pa_switch (pc' := 72) dX12_whale_28 (fun e => absurd e (by decide)) (fun _ => ⟨44, by decide, rfl⟩) ?_
    have q : h3.2.1 201 (7 + w) = nI (s.2.2.2.1 w) := by rw [← (M.2.2.1 w hw).2, Nat.zero_add]
    refine pa_aload_n (pc' := 73) dX12_whale_72 rfl rfl ?_
    refine pa_getR (pc' := 76) (n := 39) (r := 201) dX12_whale_73 fl_12_26 z196 (by decide) q17 rfl ?_
    refine pa_bipush (v := nI 7) (pc' := 78) dX12_whale_76 (by decide) rfl ?_
    refine pa_iload_n (pc' := 79) dX12_whale_78 rfl rfl ?_
    refine pa_iadd (pc' := 80) (v := nI (7 + w)) dX12_whale_79 (nI_add _ _) rfl ?_
    refine pa_iald (pc' := 81) dX12_whale_80 z201 rfl (fun _ => ?_)
    rw [nI_clamp (by omega), q]
    refine pa_iret dX12_whale_81 rfl rfl ?_
    rfl
  · refine pa_switch (pc' := 82) dX12_whale_28 (fun _ => rfl) (fun e => absurd (by decide) e) ?_
    refine pa_aload_n (pc' := 83) dX12_whale_82 rfl rfl ?_
    refine pa_iload_n (pc' := 84) dX12_whale_83 rfl rfl ?_
    refine pa_iload_n (pc' := 85) dX12_whale_84 rfl rfl ?_
    refine pa_iconst (v := nI 1) (pc' := 86) dX12_whale_85 (by decide) rfl ?_
    refine pa_isub (pc' := 87) (v := nI (3 - 1)) dX12_whale_86 (nI_sub (by omega)) rfl ?_
    refine pa_callv (pc' := 90) (vs := [.inl (nI w), .inl (nI (3 - 1))]) (rest := []) dX12_whale_87 ml_12_271 (by decide) rfl rfl rfl (fun d' _ => (M_ofWhale (j := 2) B hw (by decide))) (fun v g9 hq => ?_)
    obtain ⟨ev, eh⟩ := hq
    subst ev
    rw [eh]
    show zPn N none d mX12_whale (90, _, [.inl (vA A (107 + 4 * w + 2))], h3) _
    refine pa_iret dX12_whale_90 rfl rfl ?_
    rw [(num_whale hI hB hT hw).2.2.2.2 2 (by decide), show 107 + 4 * w + 2 = 109 + 4 * w by omega]
    rfl
  · refine pa_switch (pc' := 82) dX12_whale_28 (fun _ => rfl) (fun e => absurd (by decide) e) ?_
    refine pa_aload_n (pc' := 83) dX12_whale_82 rfl rfl ?_
    refine pa_iload_n (pc' := 84) dX12_whale_83 rfl rfl ?_
    refine pa_iload_n (pc' := 85) dX12_whale_84 rfl rfl ?_
    refine pa_iconst (v := nI 1) (pc' := 86) dX12_whale_85 (by decide) rfl ?_
    refine pa_isub (pc' := 87) (v := nI (4 - 1)) dX12_whale_86 (nI_sub (by omega)) rfl ?_
    refine pa_callv (pc' := 90) (vs := [.inl (nI w), .inl (nI (4 - 1))]) (rest := []) dX12_whale_87 ml_12_271 (by decide) rfl rfl rfl (fun d' _ => (M_ofWhale (j := 3) B hw (by decide))) (fun v g9 hq => ?_)
    obtain ⟨ev, eh⟩ := hq
    subst ev
    rw [eh]
    show zPn N none d mX12_whale (90, _, [.inl (vA A (107 + 4 * w + 3))], h3) _
    refine pa_iret dX12_whale_90 rfl rfl ?_
    rw [(num_whale hI hB hT hw).2.2.2.2 3 (by decide), show 107 + 4 * w + 3 = 110 + 4 * w by omega]
    rfl
theorem N_box12 (z : lZ A c s H J g) (m : lMid kk im t g h) : zPa d mX12_box [.inr (.inr (some 196)), .inl x, .inl y] h (fun v _ => v = some (.inl (boV A s x y))) := by
  intro N
  have s196 : zsh h 196 = some (12, 39) := zsh_by m.2.1.2.2.2 (by decide +kernel)
  generalize eg : zsI (zsI h 196 0 0) 196 11 0 = h2
  have e2 : ∀ a k, a ≠ 196 → h2.2.1 a k = h.2.1 a k := fun a k ha => by rw [← eg, zsI_no (by omega), zsI_no (by omega)]
  have e3 : ∀ k, k ≠ 0 → k ≠ 11 → h2.2.1 196 k = h.2.1 196 k := fun k w1 w2 => by rw [← eg, zsI_no (by omega), zsI_no (by omega)]
  have h1 : h2.1 = hh_487.1 := by rw [← eg]; exact m.2.1.2.2.2
  have hA : lPA A c h2 := by rw [← eg]; exact (m.pa z.1.1).gd
  have B : cI A ≠ 0 → bgM A s h2 := fun ne => by rw [← eg]; exact (z.bm m ne).gd
  have er : h2.2.2.2.1 = h.2.2.2.1 := by rw [← eg]; rfl
  have q15 : h2.2.2.2.1 196 15 = some 199 := by rw [er]; exact m.r15
  have q17 : h2.2.2.2.1 196 17 = some 201 := by rw [er]; exact m.mw.2.1
  have z196 : zsh h2 196 = some (12, 39) := zsh_by h1 (by decide +kernel)
  have z199 : zsh h2 199 = some (14, 363) := zsh_by h1 (by decide +kernel)
  have z201 : zsh h2 201 = some (14, 76) := zsh_by h1 (by decide +kernel)
  have M : nMo A s 201 0 h2 := (z.lm m).1.1.fr (fun k => e2 _ _ (by decide))
  have hT := z.1.2.1
  have hB := z.1.2.2
  have hI := z.1.1.1
  have hN := z.2.1.1
  have k0 : (0 : Int32).toInt = 0 := by decide
  obtain ⟨b1, b2, b3, b4, b5⟩ := hI.2.2.1
  show zPn N none d mX12_box (0, [(0, .inr (.inr (some 196))), (1, .inl x), (2, .inl y)], [], h) _
  refine pa_aload_n (pc' := 1) dX12_box_0 rfl rfl ?_
  refine pa_callv (pc' := 4) (vs := []) (rest := []) dX12_box_1 ml_12_167 (by decide) rfl rfl rfl (fun d' _ => (m_good s196)) (fun v h3 hq => ?_)
  obtain ⟨ev, eh⟩ := hq
  subst ev
  show zPn N none d mX12_box (4, _, [], h3) _
  rw [eg] at eh
  subst eh
  refine pa_aload_n (pc' := 5) dX12_box_4 rfl rfl ?_
  refine pa_iload_n (pc' := 6) dX12_box_5 rfl rfl ?_
  refine pa_callv (pc' := 9) (vs := [.inl x]) (rest := []) dX12_box_6 ml_12_274 (by decide) rfl rfl rfl (fun d' _ => (M_isBox hA q15 h1)) (fun v g9 hq => ?_)
  obtain ⟨ev, eh⟩ := hq
  subst ev
  rw [eh]
  show zPn N none d mX12_box (9, _, [.inl (if 0 ≤ x.toInt ∧ x.toInt < (cB A:Int) then 1 else 0)], h3) _
  by_cases hx : 0 ≤ x.toInt ∧ x.toInt < (cB A : Int)
  case neg =>
    rw [if_neg hx]
    refine pa_if_t (pc' := 21) dX12_box_9 (by decide) (by decide) ?_
    refine pa_aload_n (pc' := 22) dX12_box_21 rfl rfl ?_
    refine pa_iconst (v := nI 1) (pc' := 23) dX12_box_22 (by decide) rfl ?_
    refine pa_callv (pc' := 26) (vs := [.inl (nI 1)]) (rest := []) dX12_box_23 ml_12_170 (by decide) rfl rfl rfl (fun d' _ => (m_no z196)) (fun v g hq => ?_)
    obtain ⟨ev, eh⟩ := hq
    subst ev
    show zPn N none d mX12_box (26, _, [.inl ((-1))], g) _
    refine pa_iret dX12_box_26 rfl rfl ?_
    unfold boV
    rw [if_neg (fun q => hx q.1)]
  obtain ⟨w, rfl, hw, ew⟩ := nI_ob hx.1 hx.2
  rw [if_pos hx]
  refine pa_if_f (pc' := 12) dX12_box_9 (by decide) (by decide) rfl ?_
  refine pa_iload_n (pc' := 13) dX12_box_12 rfl rfl ?_
  refine pa_iconst (v := 0) (pc' := 14) dX12_box_13 (by decide) rfl ?_
  refine pa_iconst (v := 5) (pc' := 15) dX12_box_14 (by decide) rfl ?_
  refine pa_calls (pc' := 18) (kd := 1) (vs := [.inl y, .inl 0, .inl 5]) (rest := []) dX12_box_15 ml_12_149 (.inl rfl) rfl rfl rfl (fun d' _ => in_v) (fun v g9 hq => ?_)
  obtain ⟨ev, eh⟩ := hq
  subst ev
  rw [eh]
  show zPn N none d mX12_box (18, _, [.inl (if ((0 : Int32)).toInt ≤ (y).toInt ∧ (y).toInt ≤ ((5 : Int32)).toInt then 1 else 0)], h3) _
  rw [k0, show (5 : Int32).toInt = 5 by decide]
  by_cases hy : 0 ≤ y.toInt ∧ y.toInt ≤ 5
  case neg =>
    rw [if_neg hy]
    refine pa_if_f (pc' := 21) dX12_box_18 (by decide) (by decide) rfl ?_
    refine pa_aload_n (pc' := 22) dX12_box_21 rfl rfl ?_
    refine pa_iconst (v := nI 1) (pc' := 23) dX12_box_22 (by decide) rfl ?_
    refine pa_callv (pc' := 26) (vs := [.inl (nI 1)]) (rest := []) dX12_box_23 ml_12_170 (by decide) rfl rfl rfl (fun d' _ => (m_no z196)) (fun v g hq => ?_)
    obtain ⟨ev, eh⟩ := hq
    subst ev
    show zPn N none d mX12_box (26, _, [.inl ((-1))], g) _
    refine pa_iret dX12_box_26 rfl rfl ?_
    unfold boV
    rw [if_neg (fun q => hy (by omega))]
  rw [if_pos hy]
  have hy : 0 ≤ y.toInt ∧ y.toInt < 6 := by omega
  refine pa_if_t (pc' := 27) dX12_box_18 (by decide) (by decide) ?_
  obtain ⟨q, rfl, hq, eq⟩ := nI_ob (n := 6) hy.1 hy.2
  have V : boV A s (nI w) (nI q) = boF A s w q := by
    unfold boV
    rw [if_pos ⟨hx, hy⟩, ew, eq]
  rw [V]
  clear V eq
  have B := B (hA.has hw)
  have d1 : h3.2.1 201 (12 + w) = tDy (s.2.2.2.2.1 w) := by rw [← (M.2.2.2 w hw).1, Nat.zero_add]
  have d2 : h3.2.1 201 (20 + w) = tGo (s.2.2.2.2.1 w) := by rw [← (M.2.2.2 w hw).2.1, Nat.zero_add]
  have oc := (hN.2.2 w hw).2.2
  refine pa_iload_n (pc' := 28) dX12_box_27 rfl rfl ?_
  refine pa_iconst (v := nI 4) (pc' := 29) dX12_box_28 (by decide) rfl ?_
  have fin : ∀ (v : Int32) (u : Option Nat) (N : Nat) (ls : zL), (match u with | some p => v = nI (p + 1) ∧ p ≤ 1000000 | none => v = 0) → zget ls 3 = some (.inl v) → zPn N none d mX12_box (66, ls, [], h3) (fun v' _ => v' = some (.inl (match u with | some p => nI p | none => -2))) := fun v u N ls hv l3 => by
    refine pa_iload_n (pc' := 67) dX12_box_66 l3 rfl ?_
    cases u with
    | none =>
      have hv : v = 0 := hv
      refine pa_if_f (pc' := 70) dX12_box_67 (decide_eq_false (not_not_intro hv)) (by decide) rfl ?_
      refine pa_bipush (v := (-2)) (pc' := 72) dX12_box_70 (by decide) rfl ?_
      refine pa_goto (pc' := 78) dX12_box_72 (by decide) ?_
      refine pa_iret dX12_box_78 rfl rfl ?_
      rfl
    | some p =>
      obtain ⟨hv, hp⟩ : v = nI (p + 1) ∧ p ≤ 1000000 := hv
      subst hv
      refine pa_if_t (pc' := 75) dX12_box_67 (decide_eq_true (fun q => by have := congrArg Int32.toInt q; rw [nI_toInt (by omega), k0] at this; omega)) (by decide) ?_
      refine pa_iload_n (pc' := 76) dX12_box_75 l3 rfl ?_
      refine pa_iconst (v := nI 1) (pc' := 77) dX12_box_76 (by decide) rfl ?_
      refine pa_isub (pc' := 78) (v := nI ((p + 1) - 1)) dX12_box_77 (nI_sub (by omega)) rfl ?_
      refine pa_iret dX12_box_78 rfl rfl ?_
      rw [Nat.add_sub_cancel]
  have hq : q < 4 ∨ q = 4 ∨ q = 5 := by omega
  rcases hq with hq4 | rfl | rfl
  · refine pa_icmp_f (pc' := 32) dX12_box_29 (zk_lt_ge (b := true) (zj_lt (by rw [nI_toInt (by omega), nI_toInt (by omega)]; omega))) (by decide) rfl ?_
    have e := (num_box hI hB hT hw).2.2.2.2 q hq4
    refine pa_aload_n (pc' := 33) dX12_box_32 rfl rfl ?_
    refine pa_iload_n (pc' := 34) dX12_box_33 rfl rfl ?_
    refine pa_iload_n (pc' := 35) dX12_box_34 rfl rfl ?_
    refine pa_callv (pc' := 38) (vs := [.inl (nI w), .inl (nI q)]) (rest := []) dX12_box_35 ml_12_262 (by decide) rfl rfl rfl (fun d' _ => (M_ofBox h1 q15 (by omega) hq4 ((B.2.2.2.2.2 w hw q hq4).trans e))) (fun v g9 hq => ?_)
    obtain ⟨ev, eh⟩ := hq
    subst ev
    rw [eh]
    show zPn N none d mX12_box (38, _, [.inl (nI (nu A (127 + 4 * w + q)))], h3) _
    refine pa_iret dX12_box_38 rfl rfl ?_
    have hq : q = 0 ∨ q = 1 ∨ q = 2 ∨ q = 3 := by omega
    rcases hq with rfl | rfl | rfl | rfl
    · rfl
    · show (some (Sum.inl (nI (nu A (127 + 4 * w + 1)))) : Option zV) = some (Sum.inl (nI (nu A (128 + 4 * w))))
      rw [show 127 + 4 * w + 1 = 128 + 4 * w by omega]
    · show (some (Sum.inl (nI (nu A (127 + 4 * w + 2)))) : Option zV) = some (Sum.inl (nI (nu A (129 + 4 * w))))
      rw [show 127 + 4 * w + 2 = 129 + 4 * w by omega]
    · show (some (Sum.inl (nI (nu A (127 + 4 * w + 3)))) : Option zV) = some (Sum.inl (nI (nu A (130 + 4 * w))))
      rw [show 127 + 4 * w + 3 = 130 + 4 * w by omega]
  · refine pa_icmp_t (pc' := 39) dX12_box_29 (by decide) (by decide) ?_
    refine pa_iload_n (pc' := 40) dX12_box_39 rfl rfl ?_
    refine pa_iconst (v := nI 4) (pc' := 41) dX12_box_40 (by decide) rfl ?_
    refine pa_icmp_f (pc' := 44) dX12_box_41 (by decide) (by decide) rfl ?_
    refine pa_aload_n (pc' := 45) dX12_box_44 rfl rfl ?_
    refine pa_getR (pc' := 48) (n := 39) (r := 201) dX12_box_45 fl_12_26 z196 (by decide) q17 rfl ?_
    refine pa_bipush (v := nI 12) (pc' := 50) dX12_box_48 (by decide) rfl ?_
    refine pa_iload_n (pc' := 51) dX12_box_50 rfl rfl ?_
    refine pa_iadd (pc' := 52) (v := nI (12 + w)) dX12_box_51 (nI_add _ _) rfl ?_
    refine pa_iald (pc' := 53) dX12_box_52 z201 rfl (fun _ => ?_)
    rw [nI_clamp (by omega), d1]
    refine pa_goto (pc' := 65) dX12_box_53 (by decide) ?_
    refine pa_istore_n (pc' := 66) dX12_box_65 (by decide) rfl rfl ?_
    refine (fin _ ((s.2.2.2.2.1 w).map (fun p => p.1)) _ _ ?_ rfl).mono (fun v h' e => ?_)
    · cases o : s.2.2.2.2.1 w with
      | none => rfl
      | some p =>
        have := (oc p o).2
        have nb := nSn_le s (cB A)
        exact ⟨rfl, (by omega : p.1 ≤ 1000000)⟩
    · rw [e]
      show _ = (some (Sum.inl (sDy (s.2.2.2.2.1 w))) : Option zV)
      cases s.2.2.2.2.1 w <;> rfl
  · refine pa_icmp_t (pc' := 39) dX12_box_29 (by decide) (by decide) ?_
    refine pa_iload_n (pc' := 40) dX12_box_39 rfl rfl ?_
    refine pa_iconst (v := nI 4) (pc' := 41) dX12_box_40 (by decide) rfl ?_
    refine pa_icmp_t (pc' := 56) dX12_box_41 (by decide) (by decide) ?_
    refine pa_aload_n (pc' := 57) dX12_box_56 rfl rfl ?_
    refine pa_getR (pc' := 60) (n := 39) (r := 201) dX12_box_57 fl_12_26 z196 (by decide) q17 rfl ?_
    refine pa_bipush (v := nI 20) (pc' := 62) dX12_box_60 (by decide) rfl ?_
    refine pa_iload_n (pc' := 63) dX12_box_62 rfl rfl ?_
    refine pa_iadd (pc' := 64) (v := nI (20 + w)) dX12_box_63 (nI_add _ _) rfl ?_
    refine pa_iald (pc' := 65) dX12_box_64 z201 rfl (fun _ => ?_)
    rw [nI_clamp (by omega), d2]
    refine pa_istore_n (pc' := 66) dX12_box_65 (by decide) rfl rfl ?_
    refine (fin _ ((s.2.2.2.2.1 w).map (fun p => p.2)) _ _ ?_ rfl).mono (fun v h' e => ?_)
    · cases o : s.2.2.2.2.1 w with
      | none => rfl
      | some p =>
        have := (oc p o).1
        exact ⟨rfl, (by omega : p.2 ≤ 1000000)⟩
    · rw [e]
      show _ = (some (Sum.inl (sGo (s.2.2.2.2.1 w))) : Option zV)
      cases s.2.2.2.2.1 w <;> rfl
end AN1
/-! answers: sung, heard, note -/
/-- the days' numbers: those that hear nearest -/
def hfA (A : pA) (w : List Int32) (y : Nat) : Nat × Nat × Int32 := hFo A (w.map (rsL (ntA A) (fL (nu A 2) (ntA A) y))) (cI A)
def heV (A : pA) (s : nS) (x : Int32) (f : Nat → Int32) : Int32 := if 0 ≤ x.toInt ∧ x.toInt < (cB A : Int) then f x.toInt.toNat else -1
def noV (A : pA) (s : nS) (x y : Int32) : Int32 := if (0 ≤ x.toInt ∧ x.toInt < (cI A : Int)) ∧ 0 ≤ y.toInt ∧ y.toInt < ((A.2.2.1 x.toInt.toNat).length : Int) then nI ((dg ((A.2.2.1 x.toInt.toNat).getD y.toInt.toNat 0) + ntA A - fL (nu A 2) (ntA A) s.1) % ntA A) else -1
section AN2
variable {t d N c w b : Nat} {h g : zH} {A : pA} {s : nS} {H J : List nS} {x y : Int32} {kk : Bool} {im : Int32}
theorem lb_ok (hI : pI A) (hB : tB A) (hT : tA A) (hb : b < cB A) : lB A b ≤ 6 ∧ 2 ≤ lB A b := by
  obtain ⟨-, q2, -⟩ := num_box hI hB hT hb
  obtain ⟨-, a, b, -⟩ := okN_of hI q2
  exact ⟨a, b⟩
theorem N_isNote (z : lZ A c s H J h) (hi : lInv t h) : zPa d mX11_isNoteOfBox [.inr (.inr (some 0)), .inl x, .inl y] h (fun v g => v = some (.inl (if (0 ≤ x.toInt ∧ x.toInt < (cB A : Int)) ∧ 0 ≤ y.toInt ∧ y.toInt < (lB A x.toInt.toNat : Int) then 1 else 0)) ∧ g = h) := by
  intro N
  have h1 := hi.2.2.2.2.1
  have hA := z.1.1
  have hT := z.1.2.1
  have hB := z.1.2.2
  have hI := hA.1
  have hN := z.2.1.1
  have K := hA.2.2.2.1
  have hc2 : c = 2 ∨ c = 42 := hA.2.1
  obtain ⟨b1, b2, b3, b4, b5⟩ := hI.2.2.1
  have s0 : zsh h 0 = some (11, 16) := zsh_by h1 (by decide +kernel)
  obtain ⟨sc, sc1, sc2, sc4, sc5, scw, scb⟩ := cSh hA.2.1 h1
  obtain ⟨c9, c12, c13, cw, cb⟩ := cRf_of hi.1 hA.2.1
  have S := hi.nw
  obtain ⟨⟨s86, s87, s88, s89, s90, s91⟩, r87, r88, r89, r90, r91⟩ := S.o86
  have r3 := hA.2.2.1
  have r6 := S.2.1
  obtain ⟨n1, n2, n3, n4⟩ := z.2.2.1.1
  have k0 : (0 : Int32).toInt = 0 := by decide
  have no : ¬ ((0 ≤ x.toInt ∧ x.toInt < (cB A : Int)) ∧ 0 ≤ y.toInt ∧ y.toInt < (lB A x.toInt.toNat : Int)) → ∀ N, zPn N none d mX11_isNoteOfBox (28, [(0, .inr (.inr (some 0))), (1, .inl x), (2, .inl y)], [], h) (fun v g => v = some (.inl (if (0 ≤ x.toInt ∧ x.toInt < (cB A : Int)) ∧ 0 ≤ y.toInt ∧ y.toInt < (lB A x.toInt.toNat : Int) then 1 else 0)) ∧ g = h) := fun q N => by
    refine pa_iconst (v := 0) (pc' := 29) dX11_isNoteOfBox_28 (by decide) rfl ?_
    refine pa_iret dX11_isNoteOfBox_29 rfl rfl ?_
    exact ⟨by rw [if_neg q], rfl⟩
  show zPn N none d mX11_isNoteOfBox (0, [(0, .inr (.inr (some 0))), (1, .inl x), (2, .inl y)], [], h) _
  refine pa_aload_n (pc' := 1) dX11_isNoteOfBox_0 rfl rfl ?_
  refine pa_iload_n (pc' := 2) dX11_isNoteOfBox_1 rfl rfl ?_
  refine pa_callv (pc' := 5) (vs := [.inl x]) (rest := []) dX11_isNoteOfBox_2 ml_11_147 (by decide) rfl rfl rfl (fun d' _ => (N_isBox hA h1)) (fun v g9 hq => ?_)
  obtain ⟨ev, eh⟩ := hq
  subst ev
  rw [eh]
  show zPn N none d mX11_isNoteOfBox (5, _, [.inl (if 0 ≤ x.toInt ∧ x.toInt < (cB A:Int) then 1 else 0)], h) _
  by_cases hx : 0 ≤ x.toInt ∧ x.toInt < (cB A : Int)
  case neg =>
    rw [if_neg hx]
    refine pa_if_t (pc' := 28) dX11_isNoteOfBox_5 (by decide) (by decide) ?_
    exact no (fun q => hx q.1) _
  rw [if_pos hx]
  refine pa_if_f (pc' := 8) dX11_isNoteOfBox_5 (by decide) (by decide) rfl ?_
  refine pa_iload_n (pc' := 9) dX11_isNoteOfBox_8 rfl rfl ?_
  refine pa_if (pc' := 28) (pc2 := 12) dX11_isNoteOfBox_9 (by decide) rfl (fun q => ?_) (fun q => ?_)
  · have q := zi_lt q
    rw [k0] at q
    exact no (fun q' => by omega) _
  have q := zi_nlt q
  rw [k0] at q
  obtain ⟨w, ex, hw, ew⟩ := nI_ob hx.1 hx.2
  obtain ⟨l6, l2⟩ := lb_ok hI hB hT hw
  have BL : ∀ d', zPa d' mX4_boxLength [.inr (.inr (some c)), .inl x] h (fun v g => v = some (.inl (nI (lB A x.toInt.toNat))) ∧ g = h) := fun d' => by
    rw [ew, ex]
    exact N_boxLength (z.bc hi (hA.has hw)) hw
  refine pa_iload_n (pc' := 13) dX11_isNoteOfBox_12 rfl rfl ?_
  refine pa_aload_n (pc' := 14) dX11_isNoteOfBox_13 rfl rfl ?_
  refine pa_getR (pc' := 17) (n := 16) (r := c) dX11_isNoteOfBox_14 fl_11_23 s0 (by decide) r3 rfl ?_
  refine pa_iload_n (pc' := 18) dX11_isNoteOfBox_17 rfl rfl ?_
  refine pa_callv (pc' := 21) (vs := [.inl x]) (rest := [.inl y]) dX11_isNoteOfBox_18 ml_11_198 (by decide) rfl rfl rfl (fun d' _ => (BL d')) (fun v g9 hq => ?_)
  obtain ⟨ev, eh⟩ := hq
  subst ev
  rw [eh]
  show zPn N none d mX11_isNoteOfBox (21, _, [.inl (nI (lB A x.toInt.toNat)), .inl y], h) _
  refine pa_icmp (pc' := 28) (pc2 := 24) dX11_isNoteOfBox_21 (by decide) rfl (fun u => ?_) (fun u => ?_)
  · have u := zi_nlt (zk_ge_lt u)
    rw [ew, nI_toInt (by omega)] at u
    exact no (fun q' => by rw [ew] at q'; omega) _
  have u := zi_lt (zk_ge_lt u)
  rw [nI_toInt (by rw [ew]; omega)] at u
  refine pa_iconst (v := 1) (pc' := 25) dX11_isNoteOfBox_24 (by decide) rfl ?_
  refine pa_goto (pc' := 29) dX11_isNoteOfBox_25 (by decide) ?_
  refine pa_iret dX11_isNoteOfBox_29 rfl rfl ?_
  exact ⟨by rw [if_pos ⟨hx, by omega, u⟩], rfl⟩
theorem N_sung11 (z : lZ A c s H J h) (hi : lInv t h) : zPa d mX11_sung [.inr (.inr (some 0)), .inl x, .inl y] h (fun v _ => v = some (.inl (suV A s x y))) := by
  intro N
  have h1 := hi.2.2.2.2.1
  have hA := z.1.1
  have hT := z.1.2.1
  have hB := z.1.2.2
  have hI := hA.1
  have hN := z.2.1.1
  have K := hA.2.2.2.1
  have hc2 : c = 2 ∨ c = 42 := hA.2.1
  obtain ⟨b1, b2, b3, b4, b5⟩ := hI.2.2.1
  have s0 : zsh h 0 = some (11, 16) := zsh_by h1 (by decide +kernel)
  obtain ⟨sc, sc1, sc2, sc4, sc5, scw, scb⟩ := cSh hA.2.1 h1
  obtain ⟨c9, c12, c13, cw, cb⟩ := cRf_of hi.1 hA.2.1
  have S := hi.nw
  obtain ⟨⟨s86, s87, s88, s89, s90, s91⟩, r87, r88, r89, r90, r91⟩ := S.o86
  have r3 := hA.2.2.1
  have r6 := S.2.1
  obtain ⟨n1, n2, n3, n4⟩ := z.2.2.1.1
  show zPn N none d mX11_sung (0, [(0, .inr (.inr (some 0))), (1, .inl x), (2, .inl y)], [], h) _
  refine pa_aload_n (pc' := 1) dX11_sung_0 rfl rfl ?_
  refine pa_iload_n (pc' := 2) dX11_sung_1 rfl rfl ?_
  refine pa_iload_n (pc' := 3) dX11_sung_2 rfl rfl ?_
  refine pa_callv (pc' := 6) (vs := [.inl x, .inl y]) (rest := []) dX11_sung_3 ml_11_191 (by decide) rfl rfl rfl (fun d' _ => (N_isNote z hi)) (fun v g9 hq => ?_)
  obtain ⟨ev, eh⟩ := hq
  subst ev
  rw [eh]
  show zPn N none d mX11_sung (6, _, [.inl (if (0 ≤ x.toInt ∧ x.toInt < (cB A:Int)) ∧ 0 ≤ y.toInt ∧ y.toInt < (lB A x.toInt.toNat:Int) then 1 else 0)], h) _
  by_cases hx : (0 ≤ x.toInt ∧ x.toInt < (cB A : Int)) ∧ 0 ≤ y.toInt ∧ y.toInt < (lB A x.toInt.toNat : Int)
  case neg =>
    rw [if_neg hx]
    refine pa_if_f (pc' := 9) dX11_sung_6 (by decide) (by decide) rfl ?_
    refine pa_aload_n (pc' := 10) dX11_sung_9 rfl rfl ?_
    refine pa_iconst (v := nI 1) (pc' := 11) dX11_sung_10 (by decide) rfl ?_
    refine pa_callv (pc' := 14) (vs := [.inl (nI 1)]) (rest := []) dX11_sung_11 ml_11_98 (by decide) rfl rfl rfl (fun d' _ => (c_ref s0)) (fun v g hq => ?_)
    obtain ⟨ev, eh⟩ := hq
    subst ev
    show zPn N none d mX11_sung (14, _, [.inl ((-1))], g) _
    refine pa_iret dX11_sung_14 rfl rfl ?_
    unfold suV
    rw [if_neg hx]
  rw [if_pos hx]
  obtain ⟨b, rfl, hb, eb⟩ := nI_ob hx.1.1 hx.1.2
  obtain ⟨k, rfl, hk, ek⟩ := nI_ob hx.2.1 hx.2.2
  rw [eb] at hk
  obtain ⟨l6, l2⟩ := lb_ok hI hB hT hb
  obtain ⟨ok, ol, -⟩ := hN.2.2 b hb
  have B := z.bc hi (hA.has hb)
  have n4' := B.2.2.1.2.2.2.2.1.2.1
  have e5 : h.2.1 91 b = codeS (s.2.2.2.2.2 b) := (n4 b hb).2.2
  refine pa_if_t (pc' := 15) dX11_sung_6 (by decide) (by decide) ?_
  refine pa_aload_n (pc' := 16) dX11_sung_15 rfl rfl ?_
  refine pa_aload_n (pc' := 17) dX11_sung_16 rfl rfl ?_
  refine pa_getR (pc' := 20) (n := 16) (r := 86) dX11_sung_17 fl_11_42 s0 (by decide) r6 rfl ?_
  refine pa_getR (pc' := 23) (n := 7) (r := 91) dX11_sung_20 fl_11_195 s86 (by decide) r91 rfl ?_
  refine pa_iload_n (pc' := 24) dX11_sung_23 rfl rfl ?_
  refine pa_iald (pc' := 25) dX11_sung_24 s91 rfl (fun _ => ?_)
  rw [nI_clamp (by omega), e5]
  refine pa_aload_n (pc' := 26) dX11_sung_25 rfl rfl ?_
  refine pa_getR (pc' := 29) (n := 16) (r := c) dX11_sung_26 fl_11_23 s0 (by decide) r3 rfl ?_
  refine pa_iload_n (pc' := 30) dX11_sung_29 rfl rfl ?_
  refine pa_callv (pc' := 33) (vs := [.inl (nI b)]) (rest := [.inl (codeS (s.2.2.2.2.2 b)), .inr (.inr (some 0))]) dX11_sung_30 ml_11_198 (by decide) rfl rfl rfl (fun d' _ => (N_boxLength B hb)) (fun v g9 hq => ?_)
  obtain ⟨ev, eh⟩ := hq
  subst ev
  rw [eh]
  show zPn N none d mX11_sung (33, _, [.inl (nI (lB A b)), .inl (codeS (s.2.2.2.2.2 b)), .inr (.inr (some 0))], h) _
  refine pa_iload_n (pc' := 34) dX11_sung_33 rfl rfl ?_
  refine pa_calls (pc' := 37) (kd := 1) (vs := [.inl (codeS (s.2.2.2.2.2 b)), .inl (nI (lB A b)), .inl (nI k)]) (rest := [.inr (.inr (some 0))]) dX11_sung_34 ml_11_187 (.inl rfl) rfl rfl rfl (fun d' _ => (N_noteAt (ok.nt n4') ol l6 hk)) (fun v g9 hq => ?_)
  obtain ⟨ev, eh⟩ := hq
  subst ev
  rw [eh]
  show zPn N none d mX11_sung (37, _, [.inl (nI (dg ((s.2.2.2.2.2 b).getD k 0))), .inr (.inr (some 0))], h) _
  refine pa_callv (pc' := 40) (vs := [.inl (nI (dg ((s.2.2.2.2.2 b).getD k 0)))]) (rest := []) dX11_sung_37 ml_11_112 (by decide) rfl rfl rfl (fun d' _ => (c_gra s0)) (fun v g hq => ?_)
  obtain ⟨ev, eh⟩ := hq
  subst ev
  show zPn N none d mX11_sung (40, _, [.inl (nI ((dg ((s.2.2.2.2.2 b).getD k 0))))], g) _
  refine pa_iret dX11_sung_40 rfl rfl ?_
  unfold suV
  rw [if_pos hx, eb, ek]
theorem N_sung12 (z : lZ A c s H J g) (m : lMid kk im t g h) : zPa d mX12_sung [.inr (.inr (some 196)), .inl x, .inl y] h (fun v _ => v = some (.inl (suV A s x y))) := by
  intro N
  have s196 : zsh h 196 = some (12, 39) := zsh_by m.2.1.2.2.2 (by decide +kernel)
  generalize eg : zsI (zsI h 196 0 0) 196 11 0 = h2
  have e2 : ∀ a k, a ≠ 196 → h2.2.1 a k = h.2.1 a k := fun a k ha => by rw [← eg, zsI_no (by omega), zsI_no (by omega)]
  have e3 : ∀ k, k ≠ 0 → k ≠ 11 → h2.2.1 196 k = h.2.1 196 k := fun k w1 w2 => by rw [← eg, zsI_no (by omega), zsI_no (by omega)]
  have h1 : h2.1 = hh_487.1 := by rw [← eg]; exact m.2.1.2.2.2
  have hA : lPA A c h2 := by rw [← eg]; exact (m.pa z.1.1).gd
  have B : cI A ≠ 0 → bgM A s h2 := fun ne => by rw [← eg]; exact (z.bm m ne).gd
  have er : h2.2.2.2.1 = h.2.2.2.1 := by rw [← eg]; rfl
  have q15 : h2.2.2.2.1 196 15 = some 199 := by rw [er]; exact m.r15
  have q17 : h2.2.2.2.1 196 17 = some 201 := by rw [er]; exact m.mw.2.1
  have z196 : zsh h2 196 = some (12, 39) := zsh_by h1 (by decide +kernel)
  have z199 : zsh h2 199 = some (14, 363) := zsh_by h1 (by decide +kernel)
  have z201 : zsh h2 201 = some (14, 76) := zsh_by h1 (by decide +kernel)
  have M : nMo A s 201 0 h2 := (z.lm m).1.1.fr (fun k => e2 _ _ (by decide))
  have hT := z.1.2.1
  have hB := z.1.2.2
  have hI := z.1.1.1
  have hN := z.2.1.1
  have k0 : (0 : Int32).toInt = 0 := by decide
  obtain ⟨b1, b2, b3, b4, b5⟩ := hI.2.2.1
  show zPn N none d mX12_sung (0, [(0, .inr (.inr (some 196))), (1, .inl x), (2, .inl y)], [], h) _
  refine pa_aload_n (pc' := 1) dX12_sung_0 rfl rfl ?_
  refine pa_callv (pc' := 4) (vs := []) (rest := []) dX12_sung_1 ml_12_167 (by decide) rfl rfl rfl (fun d' _ => (m_good s196)) (fun v h3 hq => ?_)
  obtain ⟨ev, eh⟩ := hq
  subst ev
  show zPn N none d mX12_sung (4, _, [], h3) _
  rw [eg] at eh
  subst eh
  refine pa_aload_n (pc' := 5) dX12_sung_4 rfl rfl ?_
  refine pa_iload_n (pc' := 6) dX12_sung_5 rfl rfl ?_
  refine pa_callv (pc' := 9) (vs := [.inl x]) (rest := []) dX12_sung_6 ml_12_274 (by decide) rfl rfl rfl (fun d' _ => (M_isBox hA q15 h1)) (fun v g9 hq => ?_)
  obtain ⟨ev, eh⟩ := hq
  subst ev
  rw [eh]
  show zPn N none d mX12_sung (9, _, [.inl (if 0 ≤ x.toInt ∧ x.toInt < (cB A:Int) then 1 else 0)], h3) _
  by_cases hx : 0 ≤ x.toInt ∧ x.toInt < (cB A : Int)
  case neg =>
    rw [if_neg hx]
    refine pa_if_t (pc' := 44) dX12_sung_9 (by decide) (by decide) ?_
    refine pa_aload_n (pc' := 45) dX12_sung_44 rfl rfl ?_
    refine pa_iconst (v := nI 1) (pc' := 46) dX12_sung_45 (by decide) rfl ?_
    refine pa_callv (pc' := 49) (vs := [.inl (nI 1)]) (rest := []) dX12_sung_46 ml_12_170 (by decide) rfl rfl rfl (fun d' _ => (m_no z196)) (fun v g hq => ?_)
    obtain ⟨ev, eh⟩ := hq
    subst ev
    show zPn N none d mX12_sung (49, _, [.inl ((-1))], g) _
    refine pa_iret dX12_sung_49 rfl rfl ?_
    unfold suV
    rw [if_neg (fun q => hx q.1)]
  rw [if_pos hx]
  obtain ⟨b, rfl, hb, eb⟩ := nI_ob hx.1 hx.2
  obtain ⟨l6, l2⟩ := lb_ok hI hB hT hb
  have B := B (hA.has hb)
  have eto : h3.2.1 199 (127 + 4 * b + 1) = nI (nu A (128 + 4 * b)) := by
    rw [B.2.2.2.2.2 b hb 1 (by decide), (num_box hI hB hT hb).2.2.2.2 1 (by decide), show 127 + 4 * b + 1 = 128 + 4 * b by omega]
  refine pa_if_f (pc' := 12) dX12_sung_9 (by decide) (by decide) rfl ?_
  refine pa_iload_n (pc' := 13) dX12_sung_12 rfl rfl ?_
  refine pa_iconst (v := 0) (pc' := 14) dX12_sung_13 (by decide) rfl ?_
  refine pa_aload_n (pc' := 15) dX12_sung_14 rfl rfl ?_
  refine pa_iload_n (pc' := 16) dX12_sung_15 rfl rfl ?_
  refine pa_callv (pc' := 19) (vs := [.inl (nI b)]) (rest := [.inl 0, .inl y]) dX12_sung_16 ml_12_284 (by decide) rfl rfl rfl (fun d' _ => (M_boxLong B.2.2.1 (by omega) eto (num_box hI hB hT hb).2.1)) (fun v g9 hq => ?_)
  obtain ⟨ev, eh⟩ := hq
  subst ev
  rw [eh]
  show zPn N none d mX12_sung (19, _, [.inl (nI (lB A b)), .inl 0, .inl y], h3) _
  refine pa_iconst (v := nI 1) (pc' := 20) dX12_sung_19 (by decide) rfl ?_
  refine pa_isub (pc' := 21) (v := nI ((lB A b) - 1)) dX12_sung_20 (nI_sub (by omega)) rfl ?_
  refine pa_calls (pc' := 24) (kd := 1) (vs := [.inl y, .inl 0, .inl (nI ((lB A b) - 1))]) (rest := []) dX12_sung_21 ml_12_149 (.inl rfl) rfl rfl rfl (fun d' _ => in_v) (fun v g9 hq => ?_)
  obtain ⟨ev, eh⟩ := hq
  subst ev
  rw [eh]
  show zPn N none d mX12_sung (24, _, [.inl (if ((0 : Int32)).toInt ≤ (y).toInt ∧ (y).toInt ≤ ((nI ((lB A b) - 1))).toInt then 1 else 0)], h3) _
  rw [k0, nI_toInt (n := lB A b - 1) (by omega)]
  by_cases hy : 0 ≤ y.toInt ∧ y.toInt ≤ ((lB A b - 1 : Nat) : Int)
  case neg =>
    rw [if_neg hy]
    refine pa_if_t (pc' := 44) dX12_sung_24 (by decide) (by decide) ?_
    refine pa_aload_n (pc' := 45) dX12_sung_44 rfl rfl ?_
    refine pa_iconst (v := nI 1) (pc' := 46) dX12_sung_45 (by decide) rfl ?_
    refine pa_callv (pc' := 49) (vs := [.inl (nI 1)]) (rest := []) dX12_sung_46 ml_12_170 (by decide) rfl rfl rfl (fun d' _ => (m_no z196)) (fun v g hq => ?_)
    obtain ⟨ev, eh⟩ := hq
    subst ev
    show zPn N none d mX12_sung (49, _, [.inl ((-1))], g) _
    refine pa_iret dX12_sung_49 rfl rfl ?_
    unfold suV
    rw [eb, if_neg (fun q => hy (by omega))]
  rw [if_pos hy]
  obtain ⟨k, rfl, hk, ek⟩ := nI_ob (n := lB A b) hy.1 (by omega)
  have q : h3.2.1 201 (28 + 6 * b + k) = nI (dg ((s.2.2.2.2.2 b).getD k 0)) := by
    have := (M.2.2.2 b hb).2.2 k (by rw [(hN.2.2 b hb).2.1]; exact hk)
    rw [Nat.zero_add] at this
    exact this
  refine pa_if_f (pc' := 27) dX12_sung_24 (by decide) (by decide) rfl ?_
  refine pa_aload_n (pc' := 28) dX12_sung_27 rfl rfl ?_
  refine pa_getR (pc' := 31) (n := 39) (r := 201) dX12_sung_28 fl_12_26 z196 (by decide) q17 rfl ?_
  refine pa_bipush (v := nI 28) (pc' := 33) dX12_sung_31 (by decide) rfl ?_
  refine pa_bipush (v := nI 6) (pc' := 35) dX12_sung_33 (by decide) rfl ?_
  refine pa_iload_n (pc' := 36) dX12_sung_35 rfl rfl ?_
  refine pa_imul (pc' := 37) (v := nI (6 * b)) dX12_sung_36 (nI_mul _ _) rfl ?_
  refine pa_iadd (pc' := 38) (v := nI (28 + 6 * b)) dX12_sung_37 (nI_add _ _) rfl ?_
  refine pa_iload_n (pc' := 39) dX12_sung_38 rfl rfl ?_
  refine pa_iadd (pc' := 40) (v := nI (28 + 6 * b + k)) dX12_sung_39 (nI_add _ _) rfl ?_
  refine pa_iald (pc' := 41) dX12_sung_40 z201 rfl (fun _ => ?_)
  rw [nI_clamp (by omega), q]
  refine pa_goto (pc' := 49) dX12_sung_41 (by decide) ?_
  refine pa_iret dX12_sung_49 rfl rfl ?_
  unfold suV
  rw [if_pos ⟨hx, by rw [eb]; omega⟩, eb, ek]
theorem N_hearerIn (B : bgC A c s h) (h0 : h.2.2.2.1 0 7 = some 92 ∧ h.2.2.2.1 0 6 = some 86 ∧ h.2.2.2.1 0 3 = some c) (hb : b < cB A) {yr : Nat} (hy : yr ≤ 20000) : zPa d mX11_hearerIn [.inr (.inr (some 0)), .inl (nI b), .inl (nI yr)] h (fun v g => v = some (.inl (heA A (s.2.2.2.2.2 b) yr)) ∧ gF 92 h g ∧ g.2.1 92 2 = nI (hfA A (s.2.2.2.2.2 b) yr).1 ∧ g.2.1 92 3 = nI (hfA A (s.2.2.2.2.2 b) yr).2.1) := by
  intro N
  obtain ⟨hI, hT, hB, hN⟩ := B.1
  obtain ⟨r7, r6, r3⟩ := h0
  obtain ⟨l6, l2⟩ := lb_ok hI hB hT hb
  obtain ⟨ok, ol, -⟩ := hN.2.2 b hb
  have b4 := hI.2.2.1.2.2.2.1
  have h1 := B.2.1.1
  have s0 : zsh h 0 = some (11, 16) := zsh_by h1 (by decide +kernel)
  have s86 : zsh h 86 = some (2, 7) := zsh_by h1 (by decide +kernel)
  have s91 : zsh h 91 = some (14, 8) := zsh_by h1 (by decide +kernel)
  have r91 := B.2.2.2.2.1.2.2.2.2.1
  have e5 : h.2.1 91 b = codeS (s.2.2.2.2.2 b) := (B.2.2.2.1.2.2.2 b hb).2.2
  have e : hRe (nu A 1) (hfA A (s.2.2.2.2.2 b) yr) = heA A (s.2.2.2.2.2 b) yr := hear_eq B.2.2.1.2.2.2.2.1.1 B.2.2.1.2.2.2.2.1.2.1 B.2.2.1.2.2.2.2.1.2.2.2.1 (fun i hi => (B.2.2.1.2.2.2.2.2 i hi).2.2.1) ok (by omega)
  show zPn N none d mX11_hearerIn (0, [(0, .inr (.inr (some 0))), (1, .inl (nI b)), (2, .inl (nI yr))], [], h) _
  refine pa_aload_n (pc' := 1) dX11_hearerIn_0 rfl rfl ?_
  refine pa_getR (pc' := 4) (n := 16) (r := 92) dX11_hearerIn_1 fl_11_51 s0 (by decide) r7 rfl ?_
  refine pa_aload_n (pc' := 5) dX11_hearerIn_4 rfl rfl ?_
  refine pa_getR (pc' := 8) (n := 16) (r := 86) dX11_hearerIn_5 fl_11_42 s0 (by decide) r6 rfl ?_
  refine pa_getR (pc' := 11) (n := 7) (r := 91) dX11_hearerIn_8 fl_11_195 s86 (by decide) r91 rfl ?_
  refine pa_iload_n (pc' := 12) dX11_hearerIn_11 rfl rfl ?_
  refine pa_iald (pc' := 13) dX11_hearerIn_12 s91 rfl (fun _ => ?_)
  rw [nI_clamp (by omega), e5]
  refine pa_aload_n (pc' := 14) dX11_hearerIn_13 rfl rfl ?_
  refine pa_getR (pc' := 17) (n := 16) (r := c) dX11_hearerIn_14 fl_11_23 s0 (by decide) r3 rfl ?_
  refine pa_iload_n (pc' := 18) dX11_hearerIn_17 rfl rfl ?_
  refine pa_callv (pc' := 21) (vs := [.inl (nI b)]) (rest := [.inl (codeS (s.2.2.2.2.2 b)), .inr (.inr (some 92))]) dX11_hearerIn_18 ml_11_198 (by decide) rfl rfl rfl (fun d' _ => (N_boxLength B hb)) (fun v g9 hq => ?_)
  obtain ⟨ev, eh⟩ := hq
  subst ev
  rw [eh]
  show zPn N none d mX11_hearerIn (21, _, [.inl (nI (lB A b)), .inl (codeS (s.2.2.2.2.2 b)), .inr (.inr (some 92))], h) _
  refine pa_iload_n (pc' := 22) dX11_hearerIn_21 rfl rfl ?_
  refine pa_callv (pc' := 25) (vs := [.inl (codeS (s.2.2.2.2.2 b)), .inl (nI (lB A b)), .inl (nI yr)]) (rest := []) dX11_hearerIn_22 ml_11_277 (by decide) rfl rfl rfl (fun d' _ => (N_hearerOf B.2.2.1 ok ol l6 hy)) (fun v g hq => ?_)
  obtain ⟨ev, eh⟩ := hq
  subst ev
  show zPn N none d mX11_hearerIn (25, _, [.inl (hRe (nu A 1) (hfA A (s.2.2.2.2.2 b) yr))], g) _
  refine pa_iret dX11_hearerIn_25 rfl rfl ?_
  rw [e]
  exact ⟨rfl, eh⟩
theorem lInv.h0 (hi : lInv t h) (hA : lPA A c h) : h.2.2.2.1 0 7 = some 92 ∧ h.2.2.2.1 0 6 = some 86 ∧ h.2.2.2.1 0 3 = some c := ⟨hi.1.2.2.1 0 7 92 (by decide +kernel), hi.1.2.2.1 0 6 86 (by decide +kernel), hA.2.2.1⟩
theorem N_heard11 (z : lZ A c s H J h) (hi : lInv t h) : zPa d mX11_heard [.inr (.inr (some 0)), .inl x] h (fun v _ => v = some (.inl (heV A s x (fun b => heA A (s.2.2.2.2.2 b) s.1)))) := by
  intro N
  have h1 := hi.2.2.2.2.1
  have hA := z.1.1
  have hT := z.1.2.1
  have hB := z.1.2.2
  have hI := hA.1
  have hN := z.2.1.1
  have K := hA.2.2.2.1
  have hc2 : c = 2 ∨ c = 42 := hA.2.1
  obtain ⟨b1, b2, b3, b4, b5⟩ := hI.2.2.1
  have s0 : zsh h 0 = some (11, 16) := zsh_by h1 (by decide +kernel)
  obtain ⟨sc, sc1, sc2, sc4, sc5, scw, scb⟩ := cSh hA.2.1 h1
  obtain ⟨c9, c12, c13, cw, cb⟩ := cRf_of hi.1 hA.2.1
  have S := hi.nw
  obtain ⟨⟨s86, s87, s88, s89, s90, s91⟩, r87, r88, r89, r90, r91⟩ := S.o86
  have r3 := hA.2.2.1
  have r6 := S.2.1
  obtain ⟨n1, n2, n3, n4⟩ := z.2.2.1.1
  show zPn N none d mX11_heard (0, [(0, .inr (.inr (some 0))), (1, .inl x)], [], h) _
  refine pa_aload_n (pc' := 1) dX11_heard_0 rfl rfl ?_
  refine pa_iload_n (pc' := 2) dX11_heard_1 rfl rfl ?_
  refine pa_callv (pc' := 5) (vs := [.inl x]) (rest := []) dX11_heard_2 ml_11_147 (by decide) rfl rfl rfl (fun d' _ => (N_isBox hA h1)) (fun v g9 hq => ?_)
  obtain ⟨ev, eh⟩ := hq
  subst ev
  rw [eh]
  show zPn N none d mX11_heard (5, _, [.inl (if 0 ≤ x.toInt ∧ x.toInt < (cB A:Int) then 1 else 0)], h) _
  by_cases hx : 0 ≤ x.toInt ∧ x.toInt < (cB A : Int)
  case neg =>
    rw [if_neg hx]
    refine pa_if_t (pc' := 27) dX11_heard_5 (by decide) (by decide) ?_
    refine pa_aload_n (pc' := 28) dX11_heard_27 rfl rfl ?_
    refine pa_iconst (v := nI 1) (pc' := 29) dX11_heard_28 (by decide) rfl ?_
    refine pa_callv (pc' := 32) (vs := [.inl (nI 1)]) (rest := []) dX11_heard_29 ml_11_98 (by decide) rfl rfl rfl (fun d' _ => (c_ref s0)) (fun v g hq => ?_)
    obtain ⟨ev, eh⟩ := hq
    subst ev
    show zPn N none d mX11_heard (32, _, [.inl ((-1))], g) _
    refine pa_iret dX11_heard_32 rfl rfl ?_
    unfold heV
    rw [if_neg hx]
  rw [if_pos hx]
  obtain ⟨b, rfl, hb, eb⟩ := nI_ob hx.1 hx.2
  have B := z.bc hi (hA.has hb)
  have hy := hN.1
  refine pa_if_f (pc' := 8) dX11_heard_5 (by decide) (by decide) rfl ?_
  refine pa_aload_n (pc' := 9) dX11_heard_8 rfl rfl ?_
  refine pa_aload_n (pc' := 10) dX11_heard_9 rfl rfl ?_
  refine pa_iload_n (pc' := 11) dX11_heard_10 rfl rfl ?_
  refine pa_aload_n (pc' := 12) dX11_heard_11 rfl rfl ?_
  refine pa_getR (pc' := 15) (n := 16) (r := 86) dX11_heard_12 fl_11_42 s0 (by decide) r6 rfl ?_
  refine pa_getI (pc' := 18) (n := 7) (v := nI s.1) dX11_heard_15 fl_11_180 s86 (by decide) n1 rfl ?_
  refine pa_callv (pc' := 21) (vs := [.inl (nI b), .inl (nI s.1)]) (rest := [.inr (.inr (some 0))]) dX11_heard_18 ml_11_201 (by decide) rfl rfl rfl (fun d' _ => (N_hearerIn B (hi.h0 hA) hb (by omega))) (fun v g hq => ?_)
  obtain ⟨ev, eh⟩ := hq
  subst ev
  show zPn N none d mX11_heard (21, _, [.inl (heA A (s.2.2.2.2.2 b) s.1), .inr (.inr (some 0))], g) _
  have t0 : zsh g 0 = some (11, 16) := zsh_by (eh.1.1.trans h1) (by decide +kernel)
  refine pa_callv (pc' := 24) (vs := [.inl (heA A (s.2.2.2.2.2 b) s.1)]) (rest := []) dX11_heard_21 ml_11_112 (by decide) rfl rfl rfl (fun d' _ => (c_gra t0)) (fun v g9 hq => ?_)
  obtain ⟨ev, eh⟩ := hq
  subst ev
  show zPn N none d mX11_heard (24, _, [.inl ((heA A (s.2.2.2.2.2 b) s.1))], g9) _
  refine pa_goto (pc' := 32) dX11_heard_24 (by decide) ?_
  refine pa_iret dX11_heard_32 rfl rfl ?_
  unfold heV
  rw [if_pos hx, eb]
theorem N_heard12 (z : lZ A c s H J g) (m : lMid kk im t g h) : zPa d mX12_heard [.inr (.inr (some 196)), .inl x] h (fun v _ => v = some (.inl (heV A s x (fun b => heA A (s.2.2.2.2.2 b) s.1)))) := by
  intro N
  have s196 : zsh h 196 = some (12, 39) := zsh_by m.2.1.2.2.2 (by decide +kernel)
  generalize eg : zsI (zsI h 196 0 0) 196 11 0 = h2
  have e2 : ∀ a k, a ≠ 196 → h2.2.1 a k = h.2.1 a k := fun a k ha => by rw [← eg, zsI_no (by omega), zsI_no (by omega)]
  have e3 : ∀ k, k ≠ 0 → k ≠ 11 → h2.2.1 196 k = h.2.1 196 k := fun k w1 w2 => by rw [← eg, zsI_no (by omega), zsI_no (by omega)]
  have h1 : h2.1 = hh_487.1 := by rw [← eg]; exact m.2.1.2.2.2
  have hA : lPA A c h2 := by rw [← eg]; exact (m.pa z.1.1).gd
  have B : cI A ≠ 0 → bgM A s h2 := fun ne => by rw [← eg]; exact (z.bm m ne).gd
  have er : h2.2.2.2.1 = h.2.2.2.1 := by rw [← eg]; rfl
  have q15 : h2.2.2.2.1 196 15 = some 199 := by rw [er]; exact m.r15
  have q17 : h2.2.2.2.1 196 17 = some 201 := by rw [er]; exact m.mw.2.1
  have z196 : zsh h2 196 = some (12, 39) := zsh_by h1 (by decide +kernel)
  have z199 : zsh h2 199 = some (14, 363) := zsh_by h1 (by decide +kernel)
  have z201 : zsh h2 201 = some (14, 76) := zsh_by h1 (by decide +kernel)
  have M : nMo A s 201 0 h2 := (z.lm m).1.1.fr (fun k => e2 _ _ (by decide))
  have hT := z.1.2.1
  have hB := z.1.2.2
  have hI := z.1.1.1
  have hN := z.2.1.1
  have k0 : (0 : Int32).toInt = 0 := by decide
  obtain ⟨b1, b2, b3, b4, b5⟩ := hI.2.2.1
  show zPn N none d mX12_heard (0, [(0, .inr (.inr (some 196))), (1, .inl x)], [], h) _
  refine pa_aload_n (pc' := 1) dX12_heard_0 rfl rfl ?_
  refine pa_callv (pc' := 4) (vs := []) (rest := []) dX12_heard_1 ml_12_167 (by decide) rfl rfl rfl (fun d' _ => (m_good s196)) (fun v h3 hq => ?_)
  obtain ⟨ev, eh⟩ := hq
  subst ev
  show zPn N none d mX12_heard (4, _, [], h3) _
  rw [eg] at eh
  subst eh
  refine pa_aload_n (pc' := 5) dX12_heard_4 rfl rfl ?_
  refine pa_iload_n (pc' := 6) dX12_heard_5 rfl rfl ?_
  refine pa_callv (pc' := 9) (vs := [.inl x]) (rest := []) dX12_heard_6 ml_12_274 (by decide) rfl rfl rfl (fun d' _ => (M_isBox hA q15 h1)) (fun v g9 hq => ?_)
  obtain ⟨ev, eh⟩ := hq
  subst ev
  rw [eh]
  show zPn N none d mX12_heard (9, _, [.inl (if 0 ≤ x.toInt ∧ x.toInt < (cB A:Int) then 1 else 0)], h3) _
  by_cases hx : 0 ≤ x.toInt ∧ x.toInt < (cB A : Int)
  case neg =>
    rw [if_neg hx]
    refine pa_if_t (pc' := 20) dX12_heard_9 (by decide) (by decide) ?_
    refine pa_aload_n (pc' := 21) dX12_heard_20 rfl rfl ?_
    refine pa_iconst (v := nI 1) (pc' := 22) dX12_heard_21 (by decide) rfl ?_
    refine pa_callv (pc' := 25) (vs := [.inl (nI 1)]) (rest := []) dX12_heard_22 ml_12_170 (by decide) rfl rfl rfl (fun d' _ => (m_no z196)) (fun v g hq => ?_)
    obtain ⟨ev, eh⟩ := hq
    subst ev
    show zPn N none d mX12_heard (25, _, [.inl ((-1))], g) _
    refine pa_iret dX12_heard_25 rfl rfl ?_
    unfold heV
    rw [if_neg hx]
  rw [if_pos hx]
  obtain ⟨b, rfl, hb, eb⟩ := nI_ob hx.1 hx.2
  have B := B (hA.has hb)
  refine pa_if_f (pc' := 12) dX12_heard_9 (by decide) (by decide) rfl ?_
  refine pa_aload_n (pc' := 13) dX12_heard_12 rfl rfl ?_
  refine pa_iload_n (pc' := 14) dX12_heard_13 rfl rfl ?_
  refine pa_callv (pc' := 17) (vs := [.inl (nI b)]) (rest := []) dX12_heard_14 ml_12_295 (by decide) rfl rfl rfl (fun d' _ => (M_heardNow B hb)) (fun v g9 hq => ?_)
  obtain ⟨ev, eh⟩ := hq
  subst ev
  rw [eh]
  show zPn N none d mX12_heard (17, _, [.inl (heA A (s.2.2.2.2.2 b) s.1)], h3) _
  refine pa_goto (pc' := 25) dX12_heard_17 (by decide) ?_
  refine pa_iret dX12_heard_25 rfl rfl ?_
  unfold heV
  rw [if_pos hx, eb]
theorem N_note11 (z : lZ A c s H J h) (hi : lInv t h) : zPa d mX11_note [.inr (.inr (some 0)), .inl x, .inl y] h (fun v _ => v = some (.inl (noV A s x y))) := by
  intro N
  have h1 := hi.2.2.2.2.1
  have hA := z.1.1
  have hT := z.1.2.1
  have hB := z.1.2.2
  have hI := hA.1
  have hN := z.2.1.1
  have K := hA.2.2.2.1
  have hc2 : c = 2 ∨ c = 42 := hA.2.1
  obtain ⟨b1, b2, b3, b4, b5⟩ := hI.2.2.1
  have s0 : zsh h 0 = some (11, 16) := zsh_by h1 (by decide +kernel)
  obtain ⟨sc, sc1, sc2, sc4, sc5, scw, scb⟩ := cSh hA.2.1 h1
  obtain ⟨c9, c12, c13, cw, cb⟩ := cRf_of hi.1 hA.2.1
  have S := hi.nw
  obtain ⟨⟨s86, s87, s88, s89, s90, s91⟩, r87, r88, r89, r90, r91⟩ := S.o86
  have r3 := hA.2.2.1
  have r6 := S.2.1
  obtain ⟨n1, n2, n3, n4⟩ := z.2.2.1.1
  have k0 : (0 : Int32).toInt = 0 := by decide
  have hy9 := hN.1
  have no : ¬ ((0 ≤ x.toInt ∧ x.toInt < (cI A : Int)) ∧ 0 ≤ y.toInt ∧ y.toInt < ((A.2.2.1 x.toInt.toNat).length : Int)) → ∀ N, zPn N none d mX11_note (25, [(0, .inr (.inr (some 0))), (1, .inl x), (2, .inl y)], [], h) (fun v _ => v = some (.inl (noV A s x y))) := fun q N => by
    refine pa_aload_n (pc' := 26) dX11_note_25 rfl rfl ?_
    refine pa_iconst (v := nI 1) (pc' := 27) dX11_note_26 (by decide) rfl ?_
    refine pa_callv (pc' := 30) (vs := [.inl (nI 1)]) (rest := []) dX11_note_27 ml_11_98 (by decide) rfl rfl rfl (fun d' _ => (c_ref s0)) (fun v g hq => ?_)
    obtain ⟨ev, eh⟩ := hq
    subst ev
    show zPn N none d mX11_note (30, _, [.inl ((-1))], g) _
    refine pa_iret dX11_note_30 rfl rfl ?_
    unfold noV
    rw [if_neg q]
  show zPn N none d mX11_note (0, [(0, .inr (.inr (some 0))), (1, .inl x), (2, .inl y)], [], h) _
  refine pa_aload_n (pc' := 1) dX11_note_0 rfl rfl ?_
  refine pa_iload_n (pc' := 2) dX11_note_1 rfl rfl ?_
  refine pa_callv (pc' := 5) (vs := [.inl x]) (rest := []) dX11_note_2 ml_11_174 (by decide) rfl rfl rfl (fun d' _ => (N_isI11 hA h1)) (fun v g9 hq => ?_)
  obtain ⟨ev, eh⟩ := hq
  subst ev
  rw [eh]
  show zPn N none d mX11_note (5, _, [.inl (if 0 ≤ x.toInt ∧ x.toInt < (cI A:Int) then 1 else 0)], h) _
  by_cases hx : 0 ≤ x.toInt ∧ x.toInt < (cI A : Int)
  case neg =>
    rw [if_neg hx]
    refine pa_if_t (pc' := 25) dX11_note_5 (by decide) (by decide) ?_
    exact no (fun q => hx q.1) _
  rw [if_pos hx]
  refine pa_if_f (pc' := 8) dX11_note_5 (by decide) (by decide) rfl ?_
  refine pa_iload_n (pc' := 9) dX11_note_8 rfl rfl ?_
  refine pa_if (pc' := 25) (pc2 := 12) dX11_note_9 (by decide) rfl (fun q => ?_) (fun q => ?_)
  · have q := zi_lt q
    rw [k0] at q
    exact no (fun q' => by omega) _
  have q := zi_nlt q
  rw [k0] at q
  obtain ⟨i, rfl, hi2, ei⟩ := nI_ob hx.1 hx.2
  have B := z.bc hi (show cI A ≠ 0 by omega)
  obtain ⟨el, es, oS, lS⟩ := B.2.2.1.2.2.2.2.2 i hi2
  have e0 := B.2.2.1.2.2.2.1.1
  obtain ⟨nt2, nt4, -⟩ := B.2.2.1.2.2.2.2.1
  have r9 := B.2.2.1.2.2.1.2.1
  have r10 := B.2.2.1.2.2.1.2.2
  have r7 := (hi.h0 hA).1
  have r92 := B.2.2.1.2.2.1.1
  have s92 : zsh h 92 = some (7, 6) := zsh_by h1 (by decide +kernel)
  refine pa_iload_n (pc' := 13) dX11_note_12 rfl rfl ?_
  refine pa_aload_n (pc' := 14) dX11_note_13 rfl rfl ?_
  refine pa_getR (pc' := 17) (n := 16) (r := c) dX11_note_14 fl_11_23 s0 (by decide) r3 rfl ?_
  refine pa_getR (pc' := 20) (n := 15) (r := c + 2) dX11_note_17 fl_11_177 sc (by decide) r10 rfl ?_
  refine pa_iload_n (pc' := 21) dX11_note_20 rfl rfl ?_
  refine pa_iald (pc' := 22) dX11_note_21 sc2 rfl (fun _ => ?_)
  rw [nI_clamp (by omega), el]
  rw [ei] at no
  refine pa_icmp (pc' := 31) (pc2 := 25) dX11_note_22 (by decide) rfl (fun u => ?_) (fun u => ?_)
  rotate_left
  · have u := of_decide_eq_false u
    rw [lt_i, nI_toInt (by omega)] at u
    exact no (fun q' => by omega) _
  have u := lt_i.mp (of_decide_eq_true u)
  rw [nI_toInt (by omega)] at u
  clear no
  obtain ⟨k, rfl, hk, ek⟩ := nI_ob (n := (A.2.2.1 i).length) (show 0 ≤ y.toInt by omega) u
  have hfl : fL (nu A 2) (ntA A) s.1 < ntA A := by
    unfold fL
    split
    · omega
    · exact Nat.mod_lt _ (by omega)
  have okr : okN (ntA A) ((A.2.2.1 i).map (rsL (ntA A) (ntA A - fL (nu A 2) (ntA A) s.1))) := rsL_ok (by omega) nt4 _
  have lr : ((A.2.2.1 i).map (rsL (ntA A) (ntA A - fL (nu A 2) (ntA A) s.1))).length = (A.2.2.1 i).length := List.length_map ..
  have si : ∀ d, zPa d mX7_songIn [.inr (.inr (some 92)), .inl (nI i), .inl (nI s.1)] h (fun v g => v = some (.inl (codeS ((A.2.2.1 i).map (rsL (ntA A) (ntA A - fL (nu A 2) (ntA A) s.1))))) ∧ g = h) := fun d N => by
    show zPn N none d mX7_songIn (0, [(0, .inr (.inr (some 92))), (1, .inl (nI i)), (2, .inl (nI s.1))], [], h) _
    refine pa_aload_n (pc' := 1) dX7_songIn_0 rfl rfl ?_
    refine pa_aload_n (pc' := 2) dX7_songIn_1 rfl rfl ?_
    refine pa_getR (pc' := 5) (n := 6) (r := c) dX7_songIn_2 fl_7_28 s92 (by decide) r92 rfl ?_
    refine pa_getR (pc' := 8) (n := 15) (r := c + 1) dX7_songIn_5 fl_7_44 sc (by decide) r9 rfl ?_
    refine pa_iload_n (pc' := 9) dX7_songIn_8 rfl rfl ?_
    refine pa_iald (pc' := 10) dX7_songIn_9 sc1 rfl (fun _ => ?_)
    rw [nI_clamp (by omega), es]
    refine pa_aload_n (pc' := 11) dX7_songIn_10 rfl rfl ?_
    refine pa_getR (pc' := 14) (n := 6) (r := c) dX7_songIn_11 fl_7_28 s92 (by decide) r92 rfl ?_
    refine pa_getR (pc' := 17) (n := 15) (r := c + 2) dX7_songIn_14 fl_7_47 sc (by decide) r10 rfl ?_
    refine pa_iload_n (pc' := 18) dX7_songIn_17 rfl rfl ?_
    refine pa_iald (pc' := 19) dX7_songIn_18 sc2 rfl (fun _ => ?_)
    rw [nI_clamp (by omega), el]
    refine pa_aload_n (pc' := 20) dX7_songIn_19 rfl rfl ?_
    refine pa_getR (pc' := 23) (n := 6) (r := c) dX7_songIn_20 fl_7_28 s92 (by decide) r92 rfl ?_
    refine pa_getI (pc' := 26) (n := 15) (v := nI (ntA A)) dX7_songIn_23 fl_7_37 sc (by decide) e0 rfl ?_
    refine pa_aload_n (pc' := 27) dX7_songIn_26 rfl rfl ?_
    refine pa_iload_n (pc' := 28) dX7_songIn_27 rfl rfl ?_
    refine pa_callv (pc' := 31) (vs := [.inl (nI s.1)]) (rest := [.inl (nI (ntA A)), .inl (nI ((A.2.2.1 i).length)), .inl (codeS (A.2.2.1 i)), .inr (.inr (some 92))]) dX7_songIn_28 ml_7_50 (by decide) rfl rfl rfl (fun d' _ => N_fallIn B.2.2.1 (by omega)) (fun v g9 hq => ?_)
    obtain ⟨ev, eh⟩ := hq
    subst ev
    rw [eh]
    show zPn N none d mX7_songIn (31, _, [.inl (nI (fL (nu A 2) (ntA A) s.1)), .inl (nI (ntA A)), .inl (nI ((A.2.2.1 i).length)), .inl (codeS (A.2.2.1 i)), .inr (.inr (some 92))], h) _
    refine pa_isub (pc' := 32) (v := nI ((ntA A) - (fL (nu A 2) (ntA A) s.1))) dX7_songIn_31 (nI_sub (by omega)) rfl ?_
    refine pa_callv (pc' := 35) (vs := [.inl (codeS (A.2.2.1 i)), .inl (nI ((A.2.2.1 i).length)), .inl (nI ((ntA A) - (fL (nu A 2) (ntA A) s.1)))]) (rest := []) dX7_songIn_32 ml_7_54 (by decide) rfl rfl rfl (fun d' _ => N_raised B.2.2.1 oS rfl lS (by omega)) (fun v g9 hq => ?_)
    obtain ⟨ev, eh⟩ := hq
    subst ev
    rw [eh]
    show zPn N none d mX7_songIn (35, _, [.inl (codeS ((A.2.2.1 i).map (rsL (ntA A) (ntA A - fL (nu A 2) (ntA A) s.1))))], h) _
    refine pa_iret dX7_songIn_35 rfl rfl ?_
    exact ⟨rfl, rfl⟩
  refine pa_aload_n (pc' := 32) dX11_note_31 rfl rfl ?_
  refine pa_aload_n (pc' := 33) dX11_note_32 rfl rfl ?_
  refine pa_getR (pc' := 36) (n := 16) (r := 92) dX11_note_33 fl_11_51 s0 (by decide) r7 rfl ?_
  refine pa_iload_n (pc' := 37) dX11_note_36 rfl rfl ?_
  refine pa_aload_n (pc' := 38) dX11_note_37 rfl rfl ?_
  refine pa_getR (pc' := 41) (n := 16) (r := 86) dX11_note_38 fl_11_42 s0 (by decide) r6 rfl ?_
  refine pa_getI (pc' := 44) (n := 7) (v := nI s.1) dX11_note_41 fl_11_180 s86 (by decide) n1 rfl ?_
  refine pa_callv (pc' := 47) (vs := [.inl (nI i), .inl (nI s.1)]) (rest := [.inr (.inr (some 0))]) dX11_note_44 ml_11_183 (by decide) rfl rfl rfl (fun d' _ => (si d')) (fun v g9 hq => ?_)
  obtain ⟨ev, eh⟩ := hq
  subst ev
  rw [eh]
  show zPn N none d mX11_note (47, _, [.inl (codeS ((A.2.2.1 i).map (rsL (ntA A) (ntA A - fL (nu A 2) (ntA A) s.1)))), .inr (.inr (some 0))], h) _
  refine pa_aload_n (pc' := 48) dX11_note_47 rfl rfl ?_
  refine pa_getR (pc' := 51) (n := 16) (r := c) dX11_note_48 fl_11_23 s0 (by decide) r3 rfl ?_
  refine pa_getR (pc' := 54) (n := 15) (r := c + 2) dX11_note_51 fl_11_177 sc (by decide) r10 rfl ?_
  refine pa_iload_n (pc' := 55) dX11_note_54 rfl rfl ?_
  refine pa_iald (pc' := 56) dX11_note_55 sc2 rfl (fun _ => ?_)
  rw [nI_clamp (by omega), el]
  refine pa_iload_n (pc' := 57) dX11_note_56 rfl rfl ?_
  refine pa_calls (pc' := 60) (kd := 1) (vs := [.inl (codeS ((A.2.2.1 i).map (rsL (ntA A) (ntA A - fL (nu A 2) (ntA A) s.1)))), .inl (nI ((A.2.2.1 i).length)), .inl (nI k)]) (rest := [.inr (.inr (some 0))]) dX11_note_57 ml_11_187 (.inl rfl) rfl rfl rfl (fun d' _ => (N_noteAt (okr.nt nt4) lr lS hk)) (fun v g9 hq => ?_)
  obtain ⟨ev, eh⟩ := hq
  subst ev
  rw [eh]
  show zPn N none d mX11_note (60, _, [.inl (nI (dg (((A.2.2.1 i).map (rsL (ntA A) (ntA A - fL (nu A 2) (ntA A) s.1))).getD k 0))), .inr (.inr (some 0))], h) _
  refine pa_callv (pc' := 63) (vs := [.inl (nI (dg (((A.2.2.1 i).map (rsL (ntA A) (ntA A - fL (nu A 2) (ntA A) s.1))).getD k 0)))]) (rest := []) dX11_note_60 ml_11_112 (by decide) rfl rfl rfl (fun d' _ => (c_gra s0)) (fun v g hq => ?_)
  obtain ⟨ev, eh⟩ := hq
  subst ev
  show zPn N none d mX11_note (63, _, [.inl (nI ((dg (((A.2.2.1 i).map (rsL (ntA A) (ntA A - fL (nu A 2) (ntA A) s.1))).getD k 0))))], g) _
  refine pa_iret dX11_note_63 rfl rfl ?_
  unfold noV
  rw [if_pos ⟨hx, by rw [ei]; omega⟩, ei, ek, rsL_getD hk, dg_rsL (by omega) nt4, Nat.add_sub_assoc (by omega)]
theorem N_note12 (z : lZ A c s H J g) (m : lMid kk im t g h) : zPa d mX12_note [.inr (.inr (some 196)), .inl x, .inl y] h (fun v _ => v = some (.inl (noV A s x y))) := by
  intro N
  have s196 : zsh h 196 = some (12, 39) := zsh_by m.2.1.2.2.2 (by decide +kernel)
  generalize eg : zsI (zsI h 196 0 0) 196 11 0 = h2
  have e2 : ∀ a k, a ≠ 196 → h2.2.1 a k = h.2.1 a k := fun a k ha => by rw [← eg, zsI_no (by omega), zsI_no (by omega)]
  have e3 : ∀ k, k ≠ 0 → k ≠ 11 → h2.2.1 196 k = h.2.1 196 k := fun k w1 w2 => by rw [← eg, zsI_no (by omega), zsI_no (by omega)]
  have h1 : h2.1 = hh_487.1 := by rw [← eg]; exact m.2.1.2.2.2
  have hA : lPA A c h2 := by rw [← eg]; exact (m.pa z.1.1).gd
  have B : cI A ≠ 0 → bgM A s h2 := fun ne => by rw [← eg]; exact (z.bm m ne).gd
  have er : h2.2.2.2.1 = h.2.2.2.1 := by rw [← eg]; rfl
  have q15 : h2.2.2.2.1 196 15 = some 199 := by rw [er]; exact m.r15
  have q17 : h2.2.2.2.1 196 17 = some 201 := by rw [er]; exact m.mw.2.1
  have z196 : zsh h2 196 = some (12, 39) := zsh_by h1 (by decide +kernel)
  have z199 : zsh h2 199 = some (14, 363) := zsh_by h1 (by decide +kernel)
  have z201 : zsh h2 201 = some (14, 76) := zsh_by h1 (by decide +kernel)
  have M : nMo A s 201 0 h2 := (z.lm m).1.1.fr (fun k => e2 _ _ (by decide))
  have hT := z.1.2.1
  have hB := z.1.2.2
  have hI := z.1.1.1
  have hN := z.2.1.1
  have k0 : (0 : Int32).toInt = 0 := by decide
  obtain ⟨b1, b2, b3, b4, b5⟩ := hI.2.2.1
  have hy9 := hN.1
  show zPn N none d mX12_note (0, [(0, .inr (.inr (some 196))), (1, .inl x), (2, .inl y)], [], h) _
  refine pa_aload_n (pc' := 1) dX12_note_0 rfl rfl ?_
  refine pa_callv (pc' := 4) (vs := []) (rest := []) dX12_note_1 ml_12_167 (by decide) rfl rfl rfl (fun d' _ => (m_good s196)) (fun v h3 hq => ?_)
  obtain ⟨ev, eh⟩ := hq
  subst ev
  show zPn N none d mX12_note (4, _, [], h3) _
  rw [eg] at eh
  subst eh
  refine pa_aload_n (pc' := 5) dX12_note_4 rfl rfl ?_
  refine pa_iload_n (pc' := 6) dX12_note_5 rfl rfl ?_
  refine pa_callv (pc' := 9) (vs := [.inl x]) (rest := []) dX12_note_6 ml_12_277 (by decide) rfl rfl rfl (fun d' _ => (N_isI12 hA q15 h1)) (fun v g9 hq => ?_)
  obtain ⟨ev, eh⟩ := hq
  subst ev
  rw [eh]
  show zPn N none d mX12_note (9, _, [.inl (if 0 ≤ x.toInt ∧ x.toInt < (cI A:Int) then 1 else 0)], h3) _
  by_cases hx : 0 ≤ x.toInt ∧ x.toInt < (cI A : Int)
  case neg =>
    rw [if_neg hx]
    refine pa_if_t (pc' := 42) dX12_note_9 (by decide) (by decide) ?_
    refine pa_aload_n (pc' := 43) dX12_note_42 rfl rfl ?_
    refine pa_iconst (v := nI 1) (pc' := 44) dX12_note_43 (by decide) rfl ?_
    refine pa_callv (pc' := 47) (vs := [.inl (nI 1)]) (rest := []) dX12_note_44 ml_12_170 (by decide) rfl rfl rfl (fun d' _ => (m_no z196)) (fun v g hq => ?_)
    obtain ⟨ev, eh⟩ := hq
    subst ev
    show zPn N none d mX12_note (47, _, [.inl ((-1))], g) _
    refine pa_iret dX12_note_47 rfl rfl ?_
    unfold noV
    rw [if_neg (fun q => hx q.1)]
  rw [if_pos hx]
  obtain ⟨i, rfl, hi2, ei⟩ := nI_ob hx.1 hx.2
  have B := B (show cI A ≠ 0 by omega)
  obtain ⟨-, lS, l2, -⟩ := okN_of hI hi2
  have ny : h3.2.1 201 0 = nI s.1 := M.1
  refine pa_if_f (pc' := 12) dX12_note_9 (by decide) (by decide) rfl ?_
  refine pa_iload_n (pc' := 13) dX12_note_12 rfl rfl ?_
  refine pa_iconst (v := 0) (pc' := 14) dX12_note_13 (by decide) rfl ?_
  refine pa_aload_n (pc' := 15) dX12_note_14 rfl rfl ?_
  refine pa_iload_n (pc' := 16) dX12_note_15 rfl rfl ?_
  refine pa_callv (pc' := 19) (vs := [.inl (nI i)]) (rest := [.inl 0, .inl y]) dX12_note_16 ml_12_265 (by decide) rfl rfl rfl (fun d' _ => (M_songLong B.2.2.1 hi2)) (fun v g9 hq => ?_)
  obtain ⟨ev, eh⟩ := hq
  subst ev
  rw [eh]
  show zPn N none d mX12_note (19, _, [.inl (nI ((A.2.2.1 i).length)), .inl 0, .inl y], h3) _
  refine pa_iconst (v := nI 1) (pc' := 20) dX12_note_19 (by decide) rfl ?_
  refine pa_isub (pc' := 21) (v := nI (((A.2.2.1 i).length) - 1)) dX12_note_20 (nI_sub (by omega)) rfl ?_
  refine pa_calls (pc' := 24) (kd := 1) (vs := [.inl y, .inl 0, .inl (nI (((A.2.2.1 i).length) - 1))]) (rest := []) dX12_note_21 ml_12_149 (.inl rfl) rfl rfl rfl (fun d' _ => in_v) (fun v g9 hq => ?_)
  obtain ⟨ev, eh⟩ := hq
  subst ev
  rw [eh]
  show zPn N none d mX12_note (24, _, [.inl (if ((0 : Int32)).toInt ≤ (y).toInt ∧ (y).toInt ≤ ((nI (((A.2.2.1 i).length) - 1))).toInt then 1 else 0)], h3) _
  rw [k0, nI_toInt (n := (A.2.2.1 i).length - 1) (by omega)]
  by_cases hy : 0 ≤ y.toInt ∧ y.toInt ≤ (((A.2.2.1 i).length - 1 : Nat) : Int)
  case neg =>
    rw [if_neg hy]
    refine pa_if_t (pc' := 42) dX12_note_24 (by decide) (by decide) ?_
    refine pa_aload_n (pc' := 43) dX12_note_42 rfl rfl ?_
    refine pa_iconst (v := nI 1) (pc' := 44) dX12_note_43 (by decide) rfl ?_
    refine pa_callv (pc' := 47) (vs := [.inl (nI 1)]) (rest := []) dX12_note_44 ml_12_170 (by decide) rfl rfl rfl (fun d' _ => (m_no z196)) (fun v g hq => ?_)
    obtain ⟨ev, eh⟩ := hq
    subst ev
    show zPn N none d mX12_note (47, _, [.inl ((-1))], g) _
    refine pa_iret dX12_note_47 rfl rfl ?_
    unfold noV
    rw [ei, if_neg (fun q => hy (by omega))]
  rw [if_pos hy]
  obtain ⟨k, rfl, hk, ek⟩ := nI_ob (n := (A.2.2.1 i).length) hy.1 (by omega)
  refine pa_if_f (pc' := 27) dX12_note_24 (by decide) (by decide) rfl ?_
  refine pa_aload_n (pc' := 28) dX12_note_27 rfl rfl ?_
  refine pa_iload_n (pc' := 29) dX12_note_28 rfl rfl ?_
  refine pa_iload_n (pc' := 30) dX12_note_29 rfl rfl ?_
  refine pa_aload_n (pc' := 31) dX12_note_30 rfl rfl ?_
  refine pa_getR (pc' := 34) (n := 39) (r := 201) dX12_note_31 fl_12_26 z196 (by decide) q17 rfl ?_
  refine pa_iconst (v := nI 0) (pc' := 35) dX12_note_34 (by decide) rfl ?_
  refine pa_iald (pc' := 36) dX12_note_35 z201 rfl (fun _ => ?_)
  rw [nI_clamp (by omega), ny]
  refine pa_callv (pc' := 39) (vs := [.inl (nI i), .inl (nI k), .inl (nI s.1)]) (rest := []) dX12_note_36 ml_12_280 (by decide) rfl rfl rfl (fun d' _ => (M_noteIn B.2.2.1 hi2 hk (by omega))) (fun v g9 hq => ?_)
  obtain ⟨ev, eh⟩ := hq
  subst ev
  rw [eh]
  show zPn N none d mX12_note (39, _, [.inl (nI ((dg ((A.2.2.1 i).getD k 0) + ntA A - fL (nu A 2) (ntA A) s.1) % ntA A))], h3) _
  refine pa_goto (pc' := 47) dX12_note_39 (by decide) ?_
  refine pa_iret dX12_note_47 rfl rfl ?_
  unfold noV
  rw [if_pos ⟨hx, by rw [ei]; omega⟩, ei, ek]
end AN2
/-! answers: near, asNear, heardIn, sets -/
def nrS (A : pA) (w : List Int32) (nt f i : Nat) (s : Nat × Nat) : Nat × Nat := if (A.2.2.1 i).length = w.length then (if unM (A.2.2.1 i) w nt f w.length < s.1 then (unM (A.2.2.1 i) w nt f w.length, 1) else if unM (A.2.2.1 i) w nt f w.length = s.1 then (s.1, s.2 + 1) else s) else s
def nrF (A : pA) (w : List Int32) (nt f : Nat) : Nat → Nat × Nat
  | 0 => (7, 0)
  | i + 1 => nrS A w nt f i (nrF A w nt f i)
theorem nrF_b (A : pA) (w : List Int32) (nt f : Nat) : ∀ i, (nrF A w nt f i).1 ≤ 7 ∧ (nrF A w nt f i).2 ≤ i
  | 0 => ⟨Nat.le_refl _, Nat.le_refl _⟩
  | i + 1 => by
    obtain ⟨h1, h2⟩ := nrF_b A w nt f i
    show (nrS A w nt f i (nrF A w nt f i)).1 ≤ 7 ∧ (nrS A w nt f i (nrF A w nt f i)).2 ≤ i + 1
    unfold nrS
    split
    · split
      · exact ⟨by dsimp only; omega, by dsimp only; omega⟩
      · split
        · exact ⟨h1, by dsimp only; omega⟩
        · exact ⟨h1, by omega⟩
    · exact ⟨h1, by omega⟩
theorem near_eq {A : pA} {w : List Int32} {nt D y : Nat} (b1 : 2 ≤ nt) (b2 : nt ≤ 4) (hS : ∀ i, i < cI A → okN nt (A.2.2.1 i)) (ow : okN nt w) (hl : w.length ≤ 6) {i0 : Nat} (h0 : i0 < cI A) (h1 : (A.2.2.1 i0).length = w.length) : nrF A w nt (fL D nt y) (cI A) = ((hFo A (w.map (rsL nt (fL D nt y))) (cI A)).1, (hFo A (w.map (rsL nt (fL D nt y))) (cI A)).2.1) := by
  have hfl : fL D nt y < nt := by
    unfold fL
    split
    · omega
    · exact Nat.mod_lt _ (by omega)
  have lm : (w.map (rsL nt (fL D nt y))).length = w.length := List.length_map ..
  have key : ∀ i, i ≤ cI A → ((∀ j, j < i → (A.2.2.1 j).length ≠ w.length) ∧ nrF A w nt (fL D nt y) i = (7, 0) ∧ (hFo A (w.map (rsL nt (fL D nt y))) i).1 = w.length + 1) ∨ (nrF A w nt (fL D nt y) i = ((hFo A (w.map (rsL nt (fL D nt y))) i).1, (hFo A (w.map (rsL nt (fL D nt y))) i).2.1) ∧ (hFo A (w.map (rsL nt (fL D nt y))) i).1 ≤ w.length) := by
    intro i
    induction i with
    | zero => intro _; exact .inl ⟨fun j hj => absurd hj (Nat.not_lt_zero j), rfl, by show (w.map (rsL nt (fL D nt y))).length + 1 = _; rw [lm]⟩
    | succ i ih =>
      intro hi
      have ih := ih (by omega)
      show ((∀ j, j < i + 1 → (A.2.2.1 j).length ≠ w.length) ∧ nrS A w nt (fL D nt y) i (nrF A w nt (fL D nt y) i) = (7, 0) ∧ (hSt A (w.map (rsL nt (fL D nt y))) i (hFo A (w.map (rsL nt (fL D nt y))) i)).1 = w.length + 1) ∨ (nrS A w nt (fL D nt y) i (nrF A w nt (fL D nt y) i) = ((hSt A (w.map (rsL nt (fL D nt y))) i (hFo A (w.map (rsL nt (fL D nt y))) i)).1, (hSt A (w.map (rsL nt (fL D nt y))) i (hFo A (w.map (rsL nt (fL D nt y))) i)).2.1) ∧ (hSt A (w.map (rsL nt (fL D nt y))) i (hFo A (w.map (rsL nt (fL D nt y))) i)).1 ≤ w.length)
      unfold hSt nrS
      rw [lm]
      by_cases z : (A.2.2.1 i).length = w.length
      · rw [if_pos z, if_pos z]
        have oS := hS i (by omega)
        have eu := unM_df b1 b2 hfl oS ow z w.length (Nat.le_refl _)
        rw [List.take_of_length_le (by omega), List.take_of_length_le (by omega)] at eu
        rw [eu]
        have dl := df_le (w.map (rsL nt (fL D nt y))) (A.2.2.1 i)
        rw [lm] at dl
        generalize df (w.map (rsL nt (fL D nt y))) (A.2.2.1 i) = u at dl ⊢
        generalize hFo A (w.map (rsL nt (fL D nt y))) i = s at ih ⊢
        generalize nrF A w nt (fL D nt y) i = t at ih ⊢
        obtain ⟨F, C, B⟩ := s
        obtain ⟨R, Q⟩ := t
        dsimp only at ih ⊢
        rcases ih with ⟨i1, i2, i3⟩ | ⟨i2, i3⟩
        · cases i2
          rw [if_pos (by omega), if_pos (by omega)]
          exact .inr ⟨rfl, dl⟩
        · cases i2
          by_cases z1 : u < F
          · rw [if_pos z1, if_pos z1]
            exact .inr ⟨rfl, dl⟩
          · rw [if_neg z1, if_neg z1]
            by_cases z2 : u = F
            · rw [if_pos z2, if_pos z2]
              exact .inr ⟨rfl, i3⟩
            · rw [if_neg z2, if_neg z2]
              exact .inr ⟨rfl, i3⟩
      · rw [if_neg z, if_neg z]
        rcases ih with ⟨i1, i2, i3⟩ | ih
        · refine .inl ⟨fun j hj => ?_, i2, i3⟩
          by_cases y : j = i
          · rw [y]; exact z
          · exact i1 j (by omega)
        · exact .inr ih
  rcases key (cI A) (Nat.le_refl _) with ⟨q, -⟩ | ⟨q, -⟩
  · exact absurd h1 (q i0 h0)
  · exact q
def hiV (A : pA) (s : nS) (x y : Int32) : Int32 := if (0 ≤ x.toInt ∧ x.toInt < (cB A : Int)) ∧ 0 ≤ y.toInt ∧ y.toInt ≤ 99 then heA A (s.2.2.2.2.2 x.toInt.toNat) (s.1 + y.toInt.toNat) else -1
def seV (A : pA) (s : nS) (x k y : Int32) : Int32 := if ((0 ≤ x.toInt ∧ x.toInt < (cH A : Int)) ∧ 0 ≤ k.toInt ∧ k.toInt < (cW A : Int)) ∧ 0 ≤ y.toInt ∧ y.toInt ≤ 9999 then (if clB s.2.1 k.toInt.toNat = true then -2 else nI (gLv (kdA A x.toInt.toNat) (opA A k.toInt.toNat) y.toInt.toNat)) else -1
section AN3
variable {t d N c w b : Nat} {h g : zH} {A : pA} {s : nS} {H J : List nS} {x y k : Int32} {kk : Bool} {im : Int32}
theorem N_inQ {z q : Int32} : zPa d mX11_isWithin [.inl z, .inl q] h (fun v g => v = some (.inl (if 0 ≤ z.toInt ∧ z.toInt ≤ q.toInt then 1 else 0)) ∧ g = h) := by
  intro N
  have k0 : (0 : Int32).toInt = 0 := by decide
  have e13 : ¬ (0 ≤ z.toInt ∧ z.toInt ≤ q.toInt) → ∀ N, zPn N none d mX11_isWithin (13, [(0, .inl z), (1, .inl q)], [], h) (fun v g => v = some (.inl (if 0 ≤ z.toInt ∧ z.toInt ≤ q.toInt then 1 else 0)) ∧ g = h) := fun w N => by
    refine pa_iconst (v := 0) (pc' := 14) dX11_isWithin_13 (by decide) rfl ?_
    refine pa_iret dX11_isWithin_14 rfl rfl ?_
    exact ⟨by rw [if_neg w], rfl⟩
  show zPn N none d mX11_isWithin (0, [(0, .inl z), (1, .inl q)], [], h) _
  refine pa_iload_n (pc' := 1) dX11_isWithin_0 rfl rfl ?_
  refine pa_if (pc' := 13) (pc2 := 4) dX11_isWithin_1 (by decide) rfl (fun w => ?_) (fun w => ?_)
  · have w := zi_lt w
    rw [k0] at w
    exact e13 (by omega) _
  · have w := zi_nlt w
    rw [k0] at w
    refine pa_iload_n (pc' := 5) dX11_isWithin_4 rfl rfl ?_
    refine pa_iload_n (pc' := 6) dX11_isWithin_5 rfl rfl ?_
    refine pa_icmp (pc' := 13) (pc2 := 9) dX11_isWithin_6 (by decide) rfl (fun u => ?_) (fun u => ?_)
    · have u := lt_i.mp (of_decide_eq_true u)
      exact e13 (by omega) _
    · have u := of_decide_eq_false u
      rw [lt_i] at u
      refine pa_iconst (v := 1) (pc' := 10) dX11_isWithin_9 (by decide) rfl ?_
      refine pa_goto (pc' := 14) dX11_isWithin_10 (by decide) ?_
      refine pa_iret dX11_isWithin_14 rfl rfl ?_
      exact ⟨by rw [if_pos (by omega)], rfl⟩
theorem M_cpr (B : bgM A s h) (hb : b < cB A) : h.2.1 199 (127 + 4 * b + 1) = nI (nu A (128 + 4 * b)) ∧ ∀ k, k < lB A b → (if nI k = -1 then 0 else h.2.1 201 (28 + 6 * b + k)) = nI (dg ((s.2.2.2.2.2 b).getD k 0)) := by
  obtain ⟨hI, hT, hB, hN⟩ := B.1
  obtain ⟨l6, l2⟩ := lb_ok hI hB hT hb
  refine ⟨?_, fun k hk => ?_⟩
  · rw [B.2.2.2.2.2 b hb 1 (by decide), (num_box hI hB hT hb).2.2.2.2 1 (by decide), show 127 + 4 * b + 1 = 128 + 4 * b by omega]
  · rw [if_neg (fun z => by have := congrArg Int32.toInt z; rw [nI_toInt (by omega), show (-1 : Int32).toInt = -1 by decide] at this; omega)]
    have := (B.2.2.2.1.2.2.2 b hb).2.2 k (by rw [(hN.2.2 b hb).2.1]; exact hk)
    rw [Nat.zero_add] at this
    exact this
theorem M_nearOf (B : bgM A s h) (hb : b < cB A) {m : Int32} (hm : m = 0 ∨ m = 1) : zPa d mX12_nearOf [.inr (.inr (some 196)), .inl (nI b), .inl m] h (fun v g => v = some (.inl (if m = 0 then nI (hfA A (s.2.2.2.2.2 b) s.1).1 else nI (hfA A (s.2.2.2.2.2 b) s.1).2.1)) ∧ g = h) := by
  intro N
  obtain ⟨hI, hT, hB, hN⟩ := B.1
  obtain ⟨b1, b2, b3, b4, b5⟩ := hI.2.2.1
  obtain ⟨l6, l2⟩ := lb_ok hI hB hT hb
  obtain ⟨ok, ol, -⟩ := hN.2.2 b hb
  obtain ⟨-, bto, -⟩ := num_box hI hB hT hb
  have hy := hN.1
  have K := B.2.2.1
  obtain ⟨n2, n4, -⟩ := K.2.2.2.1
  obtain ⟨e1, hc⟩ := M_cpr B hb
  have s196 := sh_196' K.1
  have s199 : zsh h 199 = some (14, 363) := zsh_by K.1 (by decide +kernel)
  have s201 : zsh h 201 = some (14, 76) := zsh_by K.1 (by decide +kernel)
  obtain ⟨r15, r17⟩ := K.2.1
  have q4 := K.2.2.1.2.2.2
  have ny : h.2.1 201 0 = nI s.1 := B.2.2.2.1.1
  have eq := near_eq (D := nu A 2) (y := s.1) n2 n4 (fun i hi => (K.2.2.2.2 i hi).2.2.1) ok (by omega) bto (i0 := nu A (128 + 4 * b)) (by rw [ol]; rfl)
  generalize ef : nrF A (s.2.2.2.2.2 b) (ntA A) (fL (nu A 2) (ntA A) s.1) = f at eq
  have fb : ∀ i, (f i).1 ≤ 7 ∧ (f i).2 ≤ i := fun i => by rw [← ef]; exact nrF_b _ _ _ _ i
  have fs : ∀ i, f (i + 1) = nrS A (s.2.2.2.2.2 b) (ntA A) (fL (nu A 2) (ntA A) s.1) i (f i) := fun i => by rw [← ef]; rfl
  have lp : ∀ (N i : Nat) (ls : zL), i ≤ cI A → zget ls 0 = some (.inr (.inr (some 196))) → zget ls 1 = some (.inl (nI b)) → zget ls 2 = some (.inl m) → zget ls 3 = some (.inl (nI (f i).1)) → zget ls 4 = some (.inl (nI (f i).2)) → zget ls 5 = some (.inl (nI i)) → zPn N none d mX12_nearOf (9, ls, [], h) (fun v g => v = some (.inl (if m = 0 then nI (hfA A (s.2.2.2.2.2 b) s.1).1 else nI (hfA A (s.2.2.2.2.2 b) s.1).2.1)) ∧ g = h) := by
    intro N
    induction N with
    | zero => intros; exact zPn.zero
    | succ N ih =>
      intro i ls hi hl0 hl1 hl2 hl3 hl4 hl5
      obtain ⟨f7, fi⟩ := fb i
      refine pa_iload (pc' := 11) dX12_nearOf_9 hl5 rfl ?_
      refine pa_aload_n (pc' := 12) dX12_nearOf_11 hl0 rfl ?_
      refine pa_getR (pc' := 15) (n := 39) (r := 199) dX12_nearOf_12 fl_12_20 s196 (by decide) r15 rfl ?_
      refine pa_iconst (v := nI 4) (pc' := 16) dX12_nearOf_15 (by decide) rfl ?_
      refine pa_iald (pc' := 17) dX12_nearOf_16 s199 rfl (fun _ => ?_)
      rw [nI_clamp (by omega), q4]
      refine pa_icmp (pc' := 100) (pc2 := 20) dX12_nearOf_17 (by decide) rfl (fun z => ?_) (fun z => ?_)
      · have z := zi_nlt (zk_ge_lt z)
        rw [nI_toInt (by omega), nI_toInt (by omega)] at z
        have ei : i = cI A := by omega
        subst ei
        rw [eq] at hl3 hl4
        refine pa_iload_n (pc' := 101) dX12_nearOf_100 hl2 rfl ?_
        rcases hm with rfl | rfl
        · refine pa_if_t (pc' := 109) dX12_nearOf_101 (by decide) (by decide) ?_
          refine pa_iload_n (pc' := 110) dX12_nearOf_109 hl3 rfl ?_
          refine pa_iret dX12_nearOf_110 rfl rfl ?_
          exact ⟨rfl, rfl⟩
        · refine pa_if_f (pc' := 104) dX12_nearOf_101 (by decide) (by decide) rfl ?_
          refine pa_iload (pc' := 106) dX12_nearOf_104 hl4 rfl ?_
          refine pa_goto (pc' := 110) dX12_nearOf_106 (by decide) ?_
          refine pa_iret dX12_nearOf_110 rfl rfl ?_
          exact ⟨rfl, rfl⟩
      · have z := zi_lt (zk_ge_lt z)
        rw [nI_toInt (by omega), nI_toInt (by omega)] at z
        have nx : ∀ s', f (i + 1) = s' → ∀ ls', zget ls' 0 = some (.inr (.inr (some 196))) → zget ls' 1 = some (.inl (nI b)) → zget ls' 2 = some (.inl m) → zget ls' 3 = some (.inl (nI s'.1)) → zget ls' 4 = some (.inl (nI s'.2)) → zget ls' 5 = some (.inl (nI i)) → zPn (N + 1) none d mX12_nearOf (94, ls', [], h) (fun v g => v = some (.inl (if m = 0 then nI (hfA A (s.2.2.2.2.2 b) s.1).1 else nI (hfA A (s.2.2.2.2.2 b) s.1).2.1)) ∧ g = h) := fun s' es ls' l0 l1 l2 l3 l4 l5 => by
          refine pa_iinc (pc' := 97) (v := nI (i + 1)) dX12_nearOf_94 l5 (by decide) (nI_add i 1) rfl rfl ?_
          refine pa_gotos (pc' := 9) dX12_nearOf_97 (by decide) ?_
          subst es
          exact ih (i + 1) _ (by omega) (zget_s1 l0 (by decide) (by simp [zcat])) (zget_s1 l1 (by decide) (by simp [zcat])) (zget_s1 l2 (by decide) (by simp [zcat])) (zget_s1 l3 (by decide) (by simp [zcat])) (zget_s1 l4 (by decide) (by simp [zcat])) zget_s1e
        refine pa_aload_n (pc' := 21) dX12_nearOf_20 hl0 rfl ?_
        refine pa_iload (pc' := 23) dX12_nearOf_21 hl5 rfl ?_
        refine pa_callv (pc' := 26) (vs := [.inl (nI i)]) (rest := []) dX12_nearOf_23 ml_12_265 (by decide) rfl rfl rfl (fun d' _ => M_songLong K (show i < cI A by omega)) (fun v g9 hq => ?_)
        obtain ⟨ev, eh⟩ := hq
        subst ev
        rw [eh]
        show zPn (N + 1) none d mX12_nearOf (26, _, [.inl (nI ((A.2.2.1 i).length))], h) _
        refine pa_aload_n (pc' := 27) dX12_nearOf_26 hl0 rfl ?_
        refine pa_iload_n (pc' := 28) dX12_nearOf_27 hl1 rfl ?_
        refine pa_callv (pc' := 31) (vs := [.inl (nI b)]) (rest := [.inl (nI ((A.2.2.1 i).length))]) dX12_nearOf_28 ml_12_284 (by decide) rfl rfl rfl (fun d' _ => M_boxLong K (by omega) e1 bto) (fun v g9 hq => ?_)
        obtain ⟨ev, eh⟩ := hq
        subst ev
        rw [eh]
        show zPn (N + 1) none d mX12_nearOf (31, _, [.inl (nI (lB A b)), .inl (nI ((A.2.2.1 i).length))], h) _
        by_cases z1 : (A.2.2.1 i).length = lB A b
        · have ul := unM_le (s := A.2.2.1 i) (w := s.2.2.2.2.2 b) (nt := ntA A) (f := fL (nu A 2) (ntA A) s.1) (lB A b)
          refine pa_icmp_t (pc' := 37) dX12_nearOf_31 (decide_eq_true (by rw [z1])) (by decide) ?_
          refine pa_aload_n (pc' := 38) dX12_nearOf_37 hl0 rfl ?_
          refine pa_iload_n (pc' := 39) dX12_nearOf_38 hl1 rfl ?_
          refine pa_iload (pc' := 41) dX12_nearOf_39 hl5 rfl ?_
          refine pa_aload_n (pc' := 42) dX12_nearOf_41 hl0 rfl ?_
          refine pa_getR (pc' := 45) (n := 39) (r := 201) dX12_nearOf_42 fl_12_26 s196 (by decide) r17 rfl ?_
          refine pa_iconst (v := nI 0) (pc' := 46) dX12_nearOf_45 (by decide) rfl ?_
          refine pa_iald (pc' := 47) dX12_nearOf_46 s201 rfl (fun _ => ?_)
          rw [nI_clamp (by omega), ny]
          refine pa_iconst (v := (-1)) (pc' := 48) dX12_nearOf_47 (by decide) rfl ?_
          refine pa_iconst (v := 0) (pc' := 49) dX12_nearOf_48 (by decide) rfl ?_
          refine pa_callv (pc' := 52) (vs := [.inl (nI b), .inl (nI i), .inl (nI s.1), .inl ((-1)), .inl 0]) (rest := []) dX12_nearOf_49 ml_12_287 (by decide) rfl rfl rfl (fun d' _ => M_unlike K (by omega) e1 bto (show i < cI A by omega) rfl z1 (by omega) hc ol ok) (fun v g9 hq => ?_)
          obtain ⟨ev, eh⟩ := hq
          subst ev
          rw [eh]
          show zPn (N + 1) none d mX12_nearOf (52, _, [.inl (nI (unM (A.2.2.1 i) (s.2.2.2.2.2 b) (ntA A) (fL (nu A 2) (ntA A) s.1) (lB A b)))], h) _
          refine pa_istore (pc' := 54) dX12_nearOf_52 (by decide) rfl rfl ?_
          refine pa_iload (pc' := 56) dX12_nearOf_54 zget_s1e rfl ?_
          refine pa_iload_n (pc' := 57) dX12_nearOf_56 (zget_s1 hl3 (by decide) (by simp [zcat])) rfl ?_
          have es : f (i + 1) = if unM (A.2.2.1 i) (s.2.2.2.2.2 b) (ntA A) (fL (nu A 2) (ntA A) s.1) (lB A b) < (f i).1 then (unM (A.2.2.1 i) (s.2.2.2.2.2 b) (ntA A) (fL (nu A 2) (ntA A) s.1) (lB A b), 1) else if unM (A.2.2.1 i) (s.2.2.2.2.2 b) (ntA A) (fL (nu A 2) (ntA A) s.1) (lB A b) = (f i).1 then ((f i).1, (f i).2 + 1) else f i := by
            rw [fs]
            unfold nrS
            rw [ol, if_pos z1]
          generalize unM (A.2.2.1 i) (s.2.2.2.2.2 b) (ntA A) (fL (nu A 2) (ntA A) s.1) (lB A b) = u at ul es ⊢
          by_cases z2 : u < (f i).1
          · rw [if_pos z2] at es
            refine pa_icmp_f (pc' := 60) dX12_nearOf_57 (zk_lt_ge (b := true) (zj_lt (by rw [nI_toInt (by omega), nI_toInt (by omega)]; omega))) (by decide) rfl ?_
            refine pa_iconst (v := nI 1) (pc' := 61) dX12_nearOf_60 (by decide) rfl ?_
            refine pa_goto (pc' := 79) dX12_nearOf_61 (by decide) ?_
            refine pa_istore (pc' := 81) dX12_nearOf_79 (by decide) rfl rfl ?_
            refine pa_iload (pc' := 83) dX12_nearOf_81 (zget_s1 zget_s1e (by decide) (by simp [zcat])) rfl ?_
            refine pa_iload_n (pc' := 84) dX12_nearOf_83 (zget_s1 (zget_s1 hl3 (by decide) (by simp [zcat])) (by decide) (by simp [zcat])) rfl ?_
            refine pa_icmp_f (pc' := 87) dX12_nearOf_84 (zk_lt_ge (b := true) (zj_lt (by rw [nI_toInt (by omega), nI_toInt (by omega)]; omega))) (by decide) rfl ?_
            refine pa_iload (pc' := 89) dX12_nearOf_87 (zget_s1 zget_s1e (by decide) (by simp [zcat])) rfl ?_
            refine pa_goto (pc' := 93) dX12_nearOf_89 (by decide) ?_
            refine pa_istore_n (pc' := 94) dX12_nearOf_93 (by decide) rfl rfl ?_
            exact nx _ es _ (zget_s1 (zget_s1 (zget_s1 hl0 (by decide) (by simp [zcat])) (by decide) (by simp [zcat])) (by decide) (by simp [zcat])) (zget_s1 (zget_s1 (zget_s1 hl1 (by decide) (by simp [zcat])) (by decide) (by simp [zcat])) (by decide) (by simp [zcat])) (zget_s1 (zget_s1 (zget_s1 hl2 (by decide) (by simp [zcat])) (by decide) (by simp [zcat])) (by decide) (by simp [zcat])) zget_s1e (zget_s1 zget_s1e (by decide) (by simp [zcat])) (zget_s1 (zget_s1 (zget_s1 hl5 (by decide) (by simp [zcat])) (by decide) (by simp [zcat])) (by decide) (by simp [zcat]))
          · rw [if_neg z2] at es
            refine pa_icmp_t (pc' := 64) dX12_nearOf_57 (zk_lt_ge (b := false) (zj_nlt (by rw [nI_toInt (by omega), nI_toInt (by omega)]; omega))) (by decide) ?_
            refine pa_iload (pc' := 66) dX12_nearOf_64 zget_s1e rfl ?_
            refine pa_iload_n (pc' := 67) dX12_nearOf_66 (zget_s1 hl3 (by decide) (by simp [zcat])) rfl ?_
            by_cases z3 : u = (f i).1
            · rw [if_pos z3] at es
              refine pa_icmp_f (pc' := 70) dX12_nearOf_67 (decide_eq_false (not_not_intro (by rw [z3]))) (by decide) rfl ?_
              refine pa_iload (pc' := 72) dX12_nearOf_70 (zget_s1 hl4 (by decide) (by simp [zcat])) rfl ?_
              refine pa_iconst (v := nI 1) (pc' := 73) dX12_nearOf_72 (by decide) rfl ?_
              refine pa_iadd (pc' := 74) (v := nI ((f i).2 + 1)) dX12_nearOf_73 (nI_add _ _) rfl ?_
              refine pa_goto (pc' := 79) dX12_nearOf_74 (by decide) ?_
              refine pa_istore (pc' := 81) dX12_nearOf_79 (by decide) rfl rfl ?_
              refine pa_iload (pc' := 83) dX12_nearOf_81 (zget_s1 zget_s1e (by decide) (by simp [zcat])) rfl ?_
              refine pa_iload_n (pc' := 84) dX12_nearOf_83 (zget_s1 (zget_s1 hl3 (by decide) (by simp [zcat])) (by decide) (by simp [zcat])) rfl ?_
              refine pa_icmp_t (pc' := 92) dX12_nearOf_84 (zk_lt_ge (b := false) (zj_nlt (by rw [nI_toInt (by omega), nI_toInt (by omega)]; omega))) (by decide) ?_
              refine pa_iload_n (pc' := 93) dX12_nearOf_92 (zget_s1 (zget_s1 hl3 (by decide) (by simp [zcat])) (by decide) (by simp [zcat])) rfl ?_
              refine pa_istore_n (pc' := 94) dX12_nearOf_93 (by decide) rfl rfl ?_
              exact nx _ es _ (zget_s1 (zget_s1 (zget_s1 hl0 (by decide) (by simp [zcat])) (by decide) (by simp [zcat])) (by decide) (by simp [zcat])) (zget_s1 (zget_s1 (zget_s1 hl1 (by decide) (by simp [zcat])) (by decide) (by simp [zcat])) (by decide) (by simp [zcat])) (zget_s1 (zget_s1 (zget_s1 hl2 (by decide) (by simp [zcat])) (by decide) (by simp [zcat])) (by decide) (by simp [zcat])) zget_s1e (zget_s1 zget_s1e (by decide) (by simp [zcat])) (zget_s1 (zget_s1 (zget_s1 hl5 (by decide) (by simp [zcat])) (by decide) (by simp [zcat])) (by decide) (by simp [zcat]))
            · rw [if_neg z3] at es
              refine pa_icmp_t (pc' := 77) dX12_nearOf_67 (decide_eq_true (fun q => z3 (by have := congrArg Int32.toInt q; rw [nI_toInt (by omega), nI_toInt (by omega)] at this; omega))) (by decide) ?_
              refine pa_iload (pc' := 79) dX12_nearOf_77 (zget_s1 hl4 (by decide) (by simp [zcat])) rfl ?_
              refine pa_istore (pc' := 81) dX12_nearOf_79 (by decide) rfl rfl ?_
              refine pa_iload (pc' := 83) dX12_nearOf_81 (zget_s1 zget_s1e (by decide) (by simp [zcat])) rfl ?_
              refine pa_iload_n (pc' := 84) dX12_nearOf_83 (zget_s1 (zget_s1 hl3 (by decide) (by simp [zcat])) (by decide) (by simp [zcat])) rfl ?_
              refine pa_icmp_t (pc' := 92) dX12_nearOf_84 (zk_lt_ge (b := false) (zj_nlt (by rw [nI_toInt (by omega), nI_toInt (by omega)]; omega))) (by decide) ?_
              refine pa_iload_n (pc' := 93) dX12_nearOf_92 (zget_s1 (zget_s1 hl3 (by decide) (by simp [zcat])) (by decide) (by simp [zcat])) rfl ?_
              refine pa_istore_n (pc' := 94) dX12_nearOf_93 (by decide) rfl rfl ?_
              exact nx _ es _ (zget_s1 (zget_s1 (zget_s1 hl0 (by decide) (by simp [zcat])) (by decide) (by simp [zcat])) (by decide) (by simp [zcat])) (zget_s1 (zget_s1 (zget_s1 hl1 (by decide) (by simp [zcat])) (by decide) (by simp [zcat])) (by decide) (by simp [zcat])) (zget_s1 (zget_s1 (zget_s1 hl2 (by decide) (by simp [zcat])) (by decide) (by simp [zcat])) (by decide) (by simp [zcat])) zget_s1e (zget_s1 zget_s1e (by decide) (by simp [zcat])) (zget_s1 (zget_s1 (zget_s1 hl5 (by decide) (by simp [zcat])) (by decide) (by simp [zcat])) (by decide) (by simp [zcat]))
        · have lS := (K.2.2.2.2 i (by omega)).2.2.2
          refine pa_icmp_f (pc' := 34) dX12_nearOf_31 (decide_eq_false (fun q => z1 (by have := congrArg Int32.toInt q; rw [nI_toInt (by omega), nI_toInt (by omega)] at this; omega))) (by decide) rfl ?_
          refine pa_goto (pc' := 94) dX12_nearOf_34 (by decide) ?_
          refine nx (f i) ?_ _ hl0 hl1 hl2 hl3 hl4 hl5
          rw [fs]
          unfold nrS
          rw [ol, if_neg z1]
  have e0 : f 0 = (7, 0) := by rw [← ef]; rfl
  show zPn N none d mX12_nearOf (0, [(0, .inr (.inr (some 196))), (1, .inl (nI b)), (2, .inl m)], [], h) _
  refine pa_bipush (v := nI 7) (pc' := 2) dX12_nearOf_0 (by decide) rfl ?_
  refine pa_istore_n (pc' := 3) dX12_nearOf_2 (by decide) rfl rfl ?_
  refine pa_iconst (v := nI 0) (pc' := 4) dX12_nearOf_3 (by decide) rfl ?_
  refine pa_istore (pc' := 6) dX12_nearOf_4 (by decide) rfl rfl ?_
  refine pa_iconst (v := nI 0) (pc' := 7) dX12_nearOf_6 (by decide) rfl ?_
  refine pa_istore (pc' := 9) dX12_nearOf_7 (by decide) rfl rfl ?_
  exact lp N 0 _ (Nat.zero_le _) rfl rfl rfl (by rw [e0]; rfl) (by rw [e0]; rfl) rfl
theorem N_near11 (z : lZ A c s H J h) (hi : lInv t h) : zPa d mX11_near [.inr (.inr (some 0)), .inl x] h (fun v _ => v = some (.inl (heV A s x (fun b => nI (hfA A (s.2.2.2.2.2 b) s.1).1)))) := by
  intro N
  have h1 := hi.2.2.2.2.1
  have hA := z.1.1
  have hT := z.1.2.1
  have hB := z.1.2.2
  have hI := hA.1
  have hN := z.2.1.1
  have K := hA.2.2.2.1
  have hc2 : c = 2 ∨ c = 42 := hA.2.1
  obtain ⟨b1, b2, b3, b4, b5⟩ := hI.2.2.1
  have s0 : zsh h 0 = some (11, 16) := zsh_by h1 (by decide +kernel)
  obtain ⟨sc, sc1, sc2, sc4, sc5, scw, scb⟩ := cSh hA.2.1 h1
  obtain ⟨c9, c12, c13, cw, cb⟩ := cRf_of hi.1 hA.2.1
  have S := hi.nw
  obtain ⟨⟨s86, s87, s88, s89, s90, s91⟩, r87, r88, r89, r90, r91⟩ := S.o86
  have r3 := hA.2.2.1
  have r6 := S.2.1
  obtain ⟨n1, n2, n3, n4⟩ := z.2.2.1.1
  show zPn N none d mX11_near (0, [(0, .inr (.inr (some 0))), (1, .inl x)], [], h) _
  refine pa_aload_n (pc' := 1) dX11_near_0 rfl rfl ?_
  refine pa_iload_n (pc' := 2) dX11_near_1 rfl rfl ?_
  refine pa_callv (pc' := 5) (vs := [.inl x]) (rest := []) dX11_near_2 ml_11_147 (by decide) rfl rfl rfl (fun d' _ => (N_isBox hA h1)) (fun v g9 hq => ?_)
  obtain ⟨ev, eh⟩ := hq
  subst ev
  rw [eh]
  show zPn N none d mX11_near (5, _, [.inl (if 0 ≤ x.toInt ∧ x.toInt < (cB A:Int) then 1 else 0)], h) _
  by_cases hx : 0 ≤ x.toInt ∧ x.toInt < (cB A : Int)
  case neg =>
    rw [if_neg hx]
    refine pa_if_f (pc' := 8) dX11_near_5 (by decide) (by decide) rfl ?_
    refine pa_aload_n (pc' := 9) dX11_near_8 rfl rfl ?_
    refine pa_iconst (v := nI 1) (pc' := 10) dX11_near_9 (by decide) rfl ?_
    refine pa_callv (pc' := 13) (vs := [.inl (nI 1)]) (rest := []) dX11_near_10 ml_11_98 (by decide) rfl rfl rfl (fun d' _ => (c_ref s0)) (fun v g hq => ?_)
    obtain ⟨ev, eh⟩ := hq
    subst ev
    show zPn N none d mX11_near (13, _, [.inl ((-1))], g) _
    refine pa_iret dX11_near_13 rfl rfl ?_
    unfold heV
    rw [if_neg hx]
  rw [if_pos hx]
  obtain ⟨b, rfl, hb, eb⟩ := nI_ob hx.1 hx.2
  have B := z.bc hi (hA.has hb)
  have hy := hN.1
  refine pa_if_t (pc' := 14) dX11_near_5 (by decide) (by decide) ?_
  refine pa_aload_n (pc' := 15) dX11_near_14 rfl rfl ?_
  refine pa_iload_n (pc' := 16) dX11_near_15 rfl rfl ?_
  refine pa_aload_n (pc' := 17) dX11_near_16 rfl rfl ?_
  refine pa_getR (pc' := 20) (n := 16) (r := 86) dX11_near_17 fl_11_42 s0 (by decide) r6 rfl ?_
  refine pa_getI (pc' := 23) (n := 7) (v := nI s.1) dX11_near_20 fl_11_180 s86 (by decide) n1 rfl ?_
  refine pa_callv (pc' := 26) (vs := [.inl (nI b), .inl (nI s.1)]) (rest := []) dX11_near_23 ml_11_201 (by decide) rfl rfl rfl (fun d' _ => (N_hearerIn B (hi.h0 hA) hb (by omega))) (fun v g hq => ?_)
  obtain ⟨ev, eh⟩ := hq
  subst ev
  show zPn N none d mX11_near (26, _, [.inl (heA A (s.2.2.2.2.2 b) s.1)], g) _
  have t0 : zsh g 0 = some (11, 16) := zsh_by (eh.1.1.trans h1) (by decide +kernel)
  have t92 : zsh g 92 = some (7, 6) := zsh_by (eh.1.1.trans h1) (by decide +kernel)
  have u7 : g.2.2.2.1 0 7 = some 92 := by rw [eh.1.2.1]; exact (hi.h0 hA).1
  have u2 := eh.2.1
  refine pa_pop (pc' := 27) dX11_near_26 rfl rfl ?_
  refine pa_aload_n (pc' := 28) dX11_near_27 rfl rfl ?_
  refine pa_aload_n (pc' := 29) dX11_near_28 rfl rfl ?_
  refine pa_getR (pc' := 32) (n := 16) (r := 92) dX11_near_29 fl_11_51 t0 (by decide) u7 rfl ?_
  refine pa_getI (pc' := 35) (n := 6) (v := nI ((hfA A (s.2.2.2.2.2 b) s.1).1)) dX11_near_32 fl_11_268 t92 (by decide) u2 rfl ?_
  refine pa_callv (pc' := 38) (vs := [.inl (nI ((hfA A (s.2.2.2.2.2 b) s.1).1))]) (rest := []) dX11_near_35 ml_11_112 (by decide) rfl rfl rfl (fun d' _ => (c_gra t0)) (fun v g9 hq => ?_)
  obtain ⟨ev, eh⟩ := hq
  subst ev
  show zPn N none d mX11_near (38, _, [.inl (nI (((hfA A (s.2.2.2.2.2 b) s.1).1)))], g9) _
  refine pa_iret dX11_near_38 rfl rfl ?_
  unfold heV
  rw [if_pos hx, eb]
theorem N_near12 (z : lZ A c s H J g) (m : lMid kk im t g h) : zPa d mX12_near [.inr (.inr (some 196)), .inl x] h (fun v _ => v = some (.inl (heV A s x (fun b => nI (hfA A (s.2.2.2.2.2 b) s.1).1)))) := by
  intro N
  have s196 : zsh h 196 = some (12, 39) := zsh_by m.2.1.2.2.2 (by decide +kernel)
  generalize eg : zsI (zsI h 196 0 0) 196 11 0 = h2
  have e2 : ∀ a k, a ≠ 196 → h2.2.1 a k = h.2.1 a k := fun a k ha => by rw [← eg, zsI_no (by omega), zsI_no (by omega)]
  have e3 : ∀ k, k ≠ 0 → k ≠ 11 → h2.2.1 196 k = h.2.1 196 k := fun k w1 w2 => by rw [← eg, zsI_no (by omega), zsI_no (by omega)]
  have h1 : h2.1 = hh_487.1 := by rw [← eg]; exact m.2.1.2.2.2
  have hA : lPA A c h2 := by rw [← eg]; exact (m.pa z.1.1).gd
  have B : cI A ≠ 0 → bgM A s h2 := fun ne => by rw [← eg]; exact (z.bm m ne).gd
  have er : h2.2.2.2.1 = h.2.2.2.1 := by rw [← eg]; rfl
  have q15 : h2.2.2.2.1 196 15 = some 199 := by rw [er]; exact m.r15
  have q17 : h2.2.2.2.1 196 17 = some 201 := by rw [er]; exact m.mw.2.1
  have z196 : zsh h2 196 = some (12, 39) := zsh_by h1 (by decide +kernel)
  have z199 : zsh h2 199 = some (14, 363) := zsh_by h1 (by decide +kernel)
  have z201 : zsh h2 201 = some (14, 76) := zsh_by h1 (by decide +kernel)
  have M : nMo A s 201 0 h2 := (z.lm m).1.1.fr (fun k => e2 _ _ (by decide))
  have hT := z.1.2.1
  have hB := z.1.2.2
  have hI := z.1.1.1
  have hN := z.2.1.1
  have k0 : (0 : Int32).toInt = 0 := by decide
  obtain ⟨b1, b2, b3, b4, b5⟩ := hI.2.2.1
  show zPn N none d mX12_near (0, [(0, .inr (.inr (some 196))), (1, .inl x)], [], h) _
  refine pa_aload_n (pc' := 1) dX12_near_0 rfl rfl ?_
  refine pa_callv (pc' := 4) (vs := []) (rest := []) dX12_near_1 ml_12_167 (by decide) rfl rfl rfl (fun d' _ => (m_good s196)) (fun v h3 hq => ?_)
  obtain ⟨ev, eh⟩ := hq
  subst ev
  show zPn N none d mX12_near (4, _, [], h3) _
  rw [eg] at eh
  subst eh
  refine pa_aload_n (pc' := 5) dX12_near_4 rfl rfl ?_
  refine pa_iload_n (pc' := 6) dX12_near_5 rfl rfl ?_
  refine pa_callv (pc' := 9) (vs := [.inl x]) (rest := []) dX12_near_6 ml_12_274 (by decide) rfl rfl rfl (fun d' _ => (M_isBox hA q15 h1)) (fun v g9 hq => ?_)
  obtain ⟨ev, eh⟩ := hq
  subst ev
  rw [eh]
  show zPn N none d mX12_near (9, _, [.inl (if 0 ≤ x.toInt ∧ x.toInt < (cB A:Int) then 1 else 0)], h3) _
  by_cases hx : 0 ≤ x.toInt ∧ x.toInt < (cB A : Int)
  case neg =>
    rw [if_neg hx]
    refine pa_if_t (pc' := 21) dX12_near_9 (by decide) (by decide) ?_
    refine pa_aload_n (pc' := 22) dX12_near_21 rfl rfl ?_
    refine pa_iconst (v := nI 1) (pc' := 23) dX12_near_22 (by decide) rfl ?_
    refine pa_callv (pc' := 26) (vs := [.inl (nI 1)]) (rest := []) dX12_near_23 ml_12_170 (by decide) rfl rfl rfl (fun d' _ => (m_no z196)) (fun v g hq => ?_)
    obtain ⟨ev, eh⟩ := hq
    subst ev
    show zPn N none d mX12_near (26, _, [.inl ((-1))], g) _
    refine pa_iret dX12_near_26 rfl rfl ?_
    unfold heV
    rw [if_neg hx]
  rw [if_pos hx]
  obtain ⟨b, rfl, hb, eb⟩ := nI_ob hx.1 hx.2
  have B := B (hA.has hb)
  refine pa_if_f (pc' := 12) dX12_near_9 (by decide) (by decide) rfl ?_
  refine pa_aload_n (pc' := 13) dX12_near_12 rfl rfl ?_
  refine pa_iload_n (pc' := 14) dX12_near_13 rfl rfl ?_
  refine pa_iconst (v := 0) (pc' := 15) dX12_near_14 (by decide) rfl ?_
  refine pa_callv (pc' := 18) (vs := [.inl (nI b), .inl 0]) (rest := []) dX12_near_15 ml_12_308 (by decide) rfl rfl rfl (fun d' _ => (M_nearOf B hb (.inl rfl))) (fun v g9 hq => ?_)
  obtain ⟨ev, eh⟩ := hq
  subst ev
  rw [eh]
  show zPn N none d mX12_near (18, _, [.inl (nI ((hfA A (s.2.2.2.2.2 b) s.1).1))], h3) _
  refine pa_goto (pc' := 26) dX12_near_18 (by decide) ?_
  refine pa_iret dX12_near_26 rfl rfl ?_
  unfold heV
  rw [if_pos hx, eb]
theorem N_asNear11 (z : lZ A c s H J h) (hi : lInv t h) : zPa d mX11_asNear [.inr (.inr (some 0)), .inl x] h (fun v _ => v = some (.inl (heV A s x (fun b => nI (hfA A (s.2.2.2.2.2 b) s.1).2.1)))) := by
  intro N
  have h1 := hi.2.2.2.2.1
  have hA := z.1.1
  have hT := z.1.2.1
  have hB := z.1.2.2
  have hI := hA.1
  have hN := z.2.1.1
  have K := hA.2.2.2.1
  have hc2 : c = 2 ∨ c = 42 := hA.2.1
  obtain ⟨b1, b2, b3, b4, b5⟩ := hI.2.2.1
  have s0 : zsh h 0 = some (11, 16) := zsh_by h1 (by decide +kernel)
  obtain ⟨sc, sc1, sc2, sc4, sc5, scw, scb⟩ := cSh hA.2.1 h1
  obtain ⟨c9, c12, c13, cw, cb⟩ := cRf_of hi.1 hA.2.1
  have S := hi.nw
  obtain ⟨⟨s86, s87, s88, s89, s90, s91⟩, r87, r88, r89, r90, r91⟩ := S.o86
  have r3 := hA.2.2.1
  have r6 := S.2.1
  obtain ⟨n1, n2, n3, n4⟩ := z.2.2.1.1
  show zPn N none d mX11_asNear (0, [(0, .inr (.inr (some 0))), (1, .inl x)], [], h) _
  refine pa_aload_n (pc' := 1) dX11_asNear_0 rfl rfl ?_
  refine pa_iload_n (pc' := 2) dX11_asNear_1 rfl rfl ?_
  refine pa_callv (pc' := 5) (vs := [.inl x]) (rest := []) dX11_asNear_2 ml_11_147 (by decide) rfl rfl rfl (fun d' _ => (N_isBox hA h1)) (fun v g9 hq => ?_)
  obtain ⟨ev, eh⟩ := hq
  subst ev
  rw [eh]
  show zPn N none d mX11_asNear (5, _, [.inl (if 0 ≤ x.toInt ∧ x.toInt < (cB A:Int) then 1 else 0)], h) _
  by_cases hx : 0 ≤ x.toInt ∧ x.toInt < (cB A : Int)
  case neg =>
    rw [if_neg hx]
    refine pa_if_f (pc' := 8) dX11_asNear_5 (by decide) (by decide) rfl ?_
    refine pa_aload_n (pc' := 9) dX11_asNear_8 rfl rfl ?_
    refine pa_iconst (v := nI 1) (pc' := 10) dX11_asNear_9 (by decide) rfl ?_
    refine pa_callv (pc' := 13) (vs := [.inl (nI 1)]) (rest := []) dX11_asNear_10 ml_11_98 (by decide) rfl rfl rfl (fun d' _ => (c_ref s0)) (fun v g hq => ?_)
    obtain ⟨ev, eh⟩ := hq
    subst ev
    show zPn N none d mX11_asNear (13, _, [.inl ((-1))], g) _
    refine pa_iret dX11_asNear_13 rfl rfl ?_
    unfold heV
    rw [if_neg hx]
  rw [if_pos hx]
  obtain ⟨b, rfl, hb, eb⟩ := nI_ob hx.1 hx.2
  have B := z.bc hi (hA.has hb)
  have hy := hN.1
  refine pa_if_t (pc' := 14) dX11_asNear_5 (by decide) (by decide) ?_
  refine pa_aload_n (pc' := 15) dX11_asNear_14 rfl rfl ?_
  refine pa_iload_n (pc' := 16) dX11_asNear_15 rfl rfl ?_
  refine pa_aload_n (pc' := 17) dX11_asNear_16 rfl rfl ?_
  refine pa_getR (pc' := 20) (n := 16) (r := 86) dX11_asNear_17 fl_11_42 s0 (by decide) r6 rfl ?_
  refine pa_getI (pc' := 23) (n := 7) (v := nI s.1) dX11_asNear_20 fl_11_180 s86 (by decide) n1 rfl ?_
  refine pa_callv (pc' := 26) (vs := [.inl (nI b), .inl (nI s.1)]) (rest := []) dX11_asNear_23 ml_11_201 (by decide) rfl rfl rfl (fun d' _ => (N_hearerIn B (hi.h0 hA) hb (by omega))) (fun v g hq => ?_)
  obtain ⟨ev, eh⟩ := hq
  subst ev
  show zPn N none d mX11_asNear (26, _, [.inl (heA A (s.2.2.2.2.2 b) s.1)], g) _
  have t0 : zsh g 0 = some (11, 16) := zsh_by (eh.1.1.trans h1) (by decide +kernel)
  have t92 : zsh g 92 = some (7, 6) := zsh_by (eh.1.1.trans h1) (by decide +kernel)
  have u7 : g.2.2.2.1 0 7 = some 92 := by rw [eh.1.2.1]; exact (hi.h0 hA).1
  have u2 := eh.2.2
  refine pa_pop (pc' := 27) dX11_asNear_26 rfl rfl ?_
  refine pa_aload_n (pc' := 28) dX11_asNear_27 rfl rfl ?_
  refine pa_aload_n (pc' := 29) dX11_asNear_28 rfl rfl ?_
  refine pa_getR (pc' := 32) (n := 16) (r := 92) dX11_asNear_29 fl_11_51 t0 (by decide) u7 rfl ?_
  refine pa_getI (pc' := 35) (n := 6) (v := nI ((hfA A (s.2.2.2.2.2 b) s.1).2.1)) dX11_asNear_32 fl_11_271 t92 (by decide) u2 rfl ?_
  refine pa_callv (pc' := 38) (vs := [.inl (nI ((hfA A (s.2.2.2.2.2 b) s.1).2.1))]) (rest := []) dX11_asNear_35 ml_11_112 (by decide) rfl rfl rfl (fun d' _ => (c_gra t0)) (fun v g9 hq => ?_)
  obtain ⟨ev, eh⟩ := hq
  subst ev
  show zPn N none d mX11_asNear (38, _, [.inl (nI (((hfA A (s.2.2.2.2.2 b) s.1).2.1)))], g9) _
  refine pa_iret dX11_asNear_38 rfl rfl ?_
  unfold heV
  rw [if_pos hx, eb]
theorem N_asNear12 (z : lZ A c s H J g) (m : lMid kk im t g h) : zPa d mX12_asNear [.inr (.inr (some 196)), .inl x] h (fun v _ => v = some (.inl (heV A s x (fun b => nI (hfA A (s.2.2.2.2.2 b) s.1).2.1)))) := by
  intro N
  have s196 : zsh h 196 = some (12, 39) := zsh_by m.2.1.2.2.2 (by decide +kernel)
  generalize eg : zsI (zsI h 196 0 0) 196 11 0 = h2
  have e2 : ∀ a k, a ≠ 196 → h2.2.1 a k = h.2.1 a k := fun a k ha => by rw [← eg, zsI_no (by omega), zsI_no (by omega)]
  have e3 : ∀ k, k ≠ 0 → k ≠ 11 → h2.2.1 196 k = h.2.1 196 k := fun k w1 w2 => by rw [← eg, zsI_no (by omega), zsI_no (by omega)]
  have h1 : h2.1 = hh_487.1 := by rw [← eg]; exact m.2.1.2.2.2
  have hA : lPA A c h2 := by rw [← eg]; exact (m.pa z.1.1).gd
  have B : cI A ≠ 0 → bgM A s h2 := fun ne => by rw [← eg]; exact (z.bm m ne).gd
  have er : h2.2.2.2.1 = h.2.2.2.1 := by rw [← eg]; rfl
  have q15 : h2.2.2.2.1 196 15 = some 199 := by rw [er]; exact m.r15
  have q17 : h2.2.2.2.1 196 17 = some 201 := by rw [er]; exact m.mw.2.1
  have z196 : zsh h2 196 = some (12, 39) := zsh_by h1 (by decide +kernel)
  have z199 : zsh h2 199 = some (14, 363) := zsh_by h1 (by decide +kernel)
  have z201 : zsh h2 201 = some (14, 76) := zsh_by h1 (by decide +kernel)
  have M : nMo A s 201 0 h2 := (z.lm m).1.1.fr (fun k => e2 _ _ (by decide))
  have hT := z.1.2.1
  have hB := z.1.2.2
  have hI := z.1.1.1
  have hN := z.2.1.1
  have k0 : (0 : Int32).toInt = 0 := by decide
  obtain ⟨b1, b2, b3, b4, b5⟩ := hI.2.2.1
  show zPn N none d mX12_asNear (0, [(0, .inr (.inr (some 196))), (1, .inl x)], [], h) _
  refine pa_aload_n (pc' := 1) dX12_asNear_0 rfl rfl ?_
  refine pa_callv (pc' := 4) (vs := []) (rest := []) dX12_asNear_1 ml_12_167 (by decide) rfl rfl rfl (fun d' _ => (m_good s196)) (fun v h3 hq => ?_)
  obtain ⟨ev, eh⟩ := hq
  subst ev
  show zPn N none d mX12_asNear (4, _, [], h3) _
  rw [eg] at eh
  subst eh
  refine pa_aload_n (pc' := 5) dX12_asNear_4 rfl rfl ?_
  refine pa_iload_n (pc' := 6) dX12_asNear_5 rfl rfl ?_
  refine pa_callv (pc' := 9) (vs := [.inl x]) (rest := []) dX12_asNear_6 ml_12_274 (by decide) rfl rfl rfl (fun d' _ => (M_isBox hA q15 h1)) (fun v g9 hq => ?_)
  obtain ⟨ev, eh⟩ := hq
  subst ev
  rw [eh]
  show zPn N none d mX12_asNear (9, _, [.inl (if 0 ≤ x.toInt ∧ x.toInt < (cB A:Int) then 1 else 0)], h3) _
  by_cases hx : 0 ≤ x.toInt ∧ x.toInt < (cB A : Int)
  case neg =>
    rw [if_neg hx]
    refine pa_if_t (pc' := 21) dX12_asNear_9 (by decide) (by decide) ?_
    refine pa_aload_n (pc' := 22) dX12_asNear_21 rfl rfl ?_
    refine pa_iconst (v := nI 1) (pc' := 23) dX12_asNear_22 (by decide) rfl ?_
    refine pa_callv (pc' := 26) (vs := [.inl (nI 1)]) (rest := []) dX12_asNear_23 ml_12_170 (by decide) rfl rfl rfl (fun d' _ => (m_no z196)) (fun v g hq => ?_)
    obtain ⟨ev, eh⟩ := hq
    subst ev
    show zPn N none d mX12_asNear (26, _, [.inl ((-1))], g) _
    refine pa_iret dX12_asNear_26 rfl rfl ?_
    unfold heV
    rw [if_neg hx]
  rw [if_pos hx]
  obtain ⟨b, rfl, hb, eb⟩ := nI_ob hx.1 hx.2
  have B := B (hA.has hb)
  refine pa_if_f (pc' := 12) dX12_asNear_9 (by decide) (by decide) rfl ?_
  refine pa_aload_n (pc' := 13) dX12_asNear_12 rfl rfl ?_
  refine pa_iload_n (pc' := 14) dX12_asNear_13 rfl rfl ?_
  refine pa_iconst (v := 1) (pc' := 15) dX12_asNear_14 (by decide) rfl ?_
  refine pa_callv (pc' := 18) (vs := [.inl (nI b), .inl 1]) (rest := []) dX12_asNear_15 ml_12_308 (by decide) rfl rfl rfl (fun d' _ => (M_nearOf B hb (.inr rfl))) (fun v g9 hq => ?_)
  obtain ⟨ev, eh⟩ := hq
  subst ev
  rw [eh]
  show zPn N none d mX12_asNear (18, _, [.inl (nI ((hfA A (s.2.2.2.2.2 b) s.1).2.1))], h3) _
  refine pa_goto (pc' := 26) dX12_asNear_18 (by decide) ?_
  refine pa_iret dX12_asNear_26 rfl rfl ?_
  unfold heV
  rw [if_pos hx, eb]
theorem N_heardIn11 (z : lZ A c s H J h) (hi : lInv t h) : zPa d mX11_heardIn [.inr (.inr (some 0)), .inl x, .inl y] h (fun v _ => v = some (.inl (hiV A s x y))) := by
  intro N
  have h1 := hi.2.2.2.2.1
  have hA := z.1.1
  have hT := z.1.2.1
  have hB := z.1.2.2
  have hI := hA.1
  have hN := z.2.1.1
  have K := hA.2.2.2.1
  have hc2 : c = 2 ∨ c = 42 := hA.2.1
  obtain ⟨b1, b2, b3, b4, b5⟩ := hI.2.2.1
  have s0 : zsh h 0 = some (11, 16) := zsh_by h1 (by decide +kernel)
  obtain ⟨sc, sc1, sc2, sc4, sc5, scw, scb⟩ := cSh hA.2.1 h1
  obtain ⟨c9, c12, c13, cw, cb⟩ := cRf_of hi.1 hA.2.1
  have S := hi.nw
  obtain ⟨⟨s86, s87, s88, s89, s90, s91⟩, r87, r88, r89, r90, r91⟩ := S.o86
  have r3 := hA.2.2.1
  have r6 := S.2.1
  obtain ⟨n1, n2, n3, n4⟩ := z.2.2.1.1
  have hy9 := hN.1
  show zPn N none d mX11_heardIn (0, [(0, .inr (.inr (some 0))), (1, .inl x), (2, .inl y)], [], h) _
  refine pa_aload_n (pc' := 1) dX11_heardIn_0 rfl rfl ?_
  refine pa_iload_n (pc' := 2) dX11_heardIn_1 rfl rfl ?_
  refine pa_callv (pc' := 5) (vs := [.inl x]) (rest := []) dX11_heardIn_2 ml_11_147 (by decide) rfl rfl rfl (fun d' _ => (N_isBox hA h1)) (fun v g9 hq => ?_)
  obtain ⟨ev, eh⟩ := hq
  subst ev
  rw [eh]
  show zPn N none d mX11_heardIn (5, _, [.inl (if 0 ≤ x.toInt ∧ x.toInt < (cB A:Int) then 1 else 0)], h) _
  by_cases hx : 0 ≤ x.toInt ∧ x.toInt < (cB A : Int)
  case neg =>
    rw [if_neg hx]
    refine pa_if_f (pc' := 8) dX11_heardIn_5 (by decide) (by decide) rfl ?_
    refine pa_aload_n (pc' := 9) dX11_heardIn_8 rfl rfl ?_
    refine pa_iconst (v := nI 1) (pc' := 10) dX11_heardIn_9 (by decide) rfl ?_
    refine pa_callv (pc' := 13) (vs := [.inl (nI 1)]) (rest := []) dX11_heardIn_10 ml_11_98 (by decide) rfl rfl rfl (fun d' _ => (c_ref s0)) (fun v g hq => ?_)
    obtain ⟨ev, eh⟩ := hq
    subst ev
    show zPn N none d mX11_heardIn (13, _, [.inl ((-1))], g) _
    refine pa_iret dX11_heardIn_13 rfl rfl ?_
    unfold hiV
    rw [if_neg (fun q => hx q.1)]
  rw [if_pos hx]
  obtain ⟨b, rfl, hb, eb⟩ := nI_ob hx.1 hx.2
  have B := z.bc hi (hA.has hb)
  refine pa_if_t (pc' := 14) dX11_heardIn_5 (by decide) (by decide) ?_
  refine pa_iload_n (pc' := 15) dX11_heardIn_14 rfl rfl ?_
  refine pa_bipush (v := 99) (pc' := 17) dX11_heardIn_15 (by decide) rfl ?_
  refine pa_calls (pc' := 20) (kd := 1) (vs := [.inl y, .inl 99]) (rest := []) dX11_heardIn_17 ml_11_227 (.inl rfl) rfl rfl rfl (fun d' _ => N_inQ) (fun v g9 hq => ?_)
  obtain ⟨ev, eh⟩ := hq
  subst ev
  rw [eh]
  show zPn N none d mX11_heardIn (20, _, [.inl (if 0 ≤ (y).toInt ∧ (y).toInt ≤ ((99 : Int32)).toInt then 1 else 0)], h) _
  rw [show (99 : Int32).toInt = 99 by decide]
  by_cases hy : 0 ≤ y.toInt ∧ y.toInt ≤ 99
  case neg =>
    rw [if_neg hy]
    refine pa_if_f (pc' := 23) dX11_heardIn_20 (by decide) (by decide) rfl ?_
    refine pa_aload_n (pc' := 24) dX11_heardIn_23 rfl rfl ?_
    refine pa_iconst (v := nI 2) (pc' := 25) dX11_heardIn_24 (by decide) rfl ?_
    refine pa_callv (pc' := 28) (vs := [.inl (nI 2)]) (rest := []) dX11_heardIn_25 ml_11_98 (by decide) rfl rfl rfl (fun d' _ => (c_ref s0)) (fun v g hq => ?_)
    obtain ⟨ev, eh⟩ := hq
    subst ev
    show zPn N none d mX11_heardIn (28, _, [.inl ((-1))], g) _
    refine pa_iret dX11_heardIn_28 rfl rfl ?_
    unfold hiV
    rw [if_neg (fun q => hy q.2)]
  rw [if_pos hy]
  obtain ⟨n, rfl, hn, en⟩ := nI_ob (n := 100) hy.1 (by omega)
  refine pa_if_t (pc' := 29) dX11_heardIn_20 (by decide) (by decide) ?_
  refine pa_aload_n (pc' := 30) dX11_heardIn_29 rfl rfl ?_
  refine pa_aload_n (pc' := 31) dX11_heardIn_30 rfl rfl ?_
  refine pa_iload_n (pc' := 32) dX11_heardIn_31 rfl rfl ?_
  refine pa_aload_n (pc' := 33) dX11_heardIn_32 rfl rfl ?_
  refine pa_getR (pc' := 36) (n := 16) (r := 86) dX11_heardIn_33 fl_11_42 s0 (by decide) r6 rfl ?_
  refine pa_getI (pc' := 39) (n := 7) (v := nI s.1) dX11_heardIn_36 fl_11_180 s86 (by decide) n1 rfl ?_
  refine pa_iload_n (pc' := 40) dX11_heardIn_39 rfl rfl ?_
  refine pa_iadd (pc' := 41) (v := nI (s.1 + n)) dX11_heardIn_40 (nI_add _ _) rfl ?_
  refine pa_callv (pc' := 44) (vs := [.inl (nI b), .inl (nI (s.1 + n))]) (rest := [.inr (.inr (some 0))]) dX11_heardIn_41 ml_11_201 (by decide) rfl rfl rfl (fun d' _ => (N_hearerIn B (hi.h0 hA) hb (by omega))) (fun v g hq => ?_)
  obtain ⟨ev, eh⟩ := hq
  subst ev
  show zPn N none d mX11_heardIn (44, _, [.inl (heA A (s.2.2.2.2.2 b) (s.1 + n)), .inr (.inr (some 0))], g) _
  have t0 : zsh g 0 = some (11, 16) := zsh_by (eh.1.1.trans h1) (by decide +kernel)
  refine pa_callv (pc' := 47) (vs := [.inl (heA A (s.2.2.2.2.2 b) (s.1 + n))]) (rest := []) dX11_heardIn_44 ml_11_112 (by decide) rfl rfl rfl (fun d' _ => (c_gra t0)) (fun v g9 hq => ?_)
  obtain ⟨ev, eh⟩ := hq
  subst ev
  show zPn N none d mX11_heardIn (47, _, [.inl ((heA A (s.2.2.2.2.2 b) (s.1 + n)))], g9) _
  refine pa_iret dX11_heardIn_47 rfl rfl ?_
  unfold hiV
  rw [if_pos ⟨hx, hy⟩, eb, en]
theorem N_heardIn12 (z : lZ A c s H J g) (m : lMid kk im t g h) : zPa d mX12_heardIn [.inr (.inr (some 196)), .inl x, .inl y] h (fun v _ => v = some (.inl (hiV A s x y))) := by
  intro N
  have s196 : zsh h 196 = some (12, 39) := zsh_by m.2.1.2.2.2 (by decide +kernel)
  generalize eg : zsI (zsI h 196 0 0) 196 11 0 = h2
  have e2 : ∀ a k, a ≠ 196 → h2.2.1 a k = h.2.1 a k := fun a k ha => by rw [← eg, zsI_no (by omega), zsI_no (by omega)]
  have e3 : ∀ k, k ≠ 0 → k ≠ 11 → h2.2.1 196 k = h.2.1 196 k := fun k w1 w2 => by rw [← eg, zsI_no (by omega), zsI_no (by omega)]
  have h1 : h2.1 = hh_487.1 := by rw [← eg]; exact m.2.1.2.2.2
  have hA : lPA A c h2 := by rw [← eg]; exact (m.pa z.1.1).gd
  have B : cI A ≠ 0 → bgM A s h2 := fun ne => by rw [← eg]; exact (z.bm m ne).gd
  have er : h2.2.2.2.1 = h.2.2.2.1 := by rw [← eg]; rfl
  have q15 : h2.2.2.2.1 196 15 = some 199 := by rw [er]; exact m.r15
  have q17 : h2.2.2.2.1 196 17 = some 201 := by rw [er]; exact m.mw.2.1
  have z196 : zsh h2 196 = some (12, 39) := zsh_by h1 (by decide +kernel)
  have z199 : zsh h2 199 = some (14, 363) := zsh_by h1 (by decide +kernel)
  have z201 : zsh h2 201 = some (14, 76) := zsh_by h1 (by decide +kernel)
  have M : nMo A s 201 0 h2 := (z.lm m).1.1.fr (fun k => e2 _ _ (by decide))
  have hT := z.1.2.1
  have hB := z.1.2.2
  have hI := z.1.1.1
  have hN := z.2.1.1
  have k0 : (0 : Int32).toInt = 0 := by decide
  obtain ⟨b1, b2, b3, b4, b5⟩ := hI.2.2.1
  have hy9 := hN.1
  show zPn N none d mX12_heardIn (0, [(0, .inr (.inr (some 196))), (1, .inl x), (2, .inl y)], [], h) _
  refine pa_aload_n (pc' := 1) dX12_heardIn_0 rfl rfl ?_
  refine pa_callv (pc' := 4) (vs := []) (rest := []) dX12_heardIn_1 ml_12_167 (by decide) rfl rfl rfl (fun d' _ => (m_good s196)) (fun v h3 hq => ?_)
  obtain ⟨ev, eh⟩ := hq
  subst ev
  show zPn N none d mX12_heardIn (4, _, [], h3) _
  rw [eg] at eh
  subst eh
  refine pa_aload_n (pc' := 5) dX12_heardIn_4 rfl rfl ?_
  refine pa_iload_n (pc' := 6) dX12_heardIn_5 rfl rfl ?_
  refine pa_callv (pc' := 9) (vs := [.inl x]) (rest := []) dX12_heardIn_6 ml_12_274 (by decide) rfl rfl rfl (fun d' _ => (M_isBox hA q15 h1)) (fun v g9 hq => ?_)
  obtain ⟨ev, eh⟩ := hq
  subst ev
  rw [eh]
  show zPn N none d mX12_heardIn (9, _, [.inl (if 0 ≤ x.toInt ∧ x.toInt < (cB A:Int) then 1 else 0)], h3) _
  by_cases hx : 0 ≤ x.toInt ∧ x.toInt < (cB A : Int)
  case neg =>
    rw [if_neg hx]
    refine pa_if_f (pc' := 12) dX12_heardIn_9 (by decide) (by decide) rfl ?_
    refine pa_aload_n (pc' := 13) dX12_heardIn_12 rfl rfl ?_
    refine pa_iconst (v := nI 1) (pc' := 14) dX12_heardIn_13 (by decide) rfl ?_
    refine pa_callv (pc' := 17) (vs := [.inl (nI 1)]) (rest := []) dX12_heardIn_14 ml_12_170 (by decide) rfl rfl rfl (fun d' _ => (m_no z196)) (fun v g hq => ?_)
    obtain ⟨ev, eh⟩ := hq
    subst ev
    show zPn N none d mX12_heardIn (17, _, [.inl ((-1))], g) _
    refine pa_iret dX12_heardIn_17 rfl rfl ?_
    unfold hiV
    rw [if_neg (fun q => hx q.1)]
  rw [if_pos hx]
  obtain ⟨b, rfl, hb, eb⟩ := nI_ob hx.1 hx.2
  have B := B (hA.has hb)
  obtain ⟨l6, l2⟩ := lb_ok hI hB hT hb
  obtain ⟨ok, ol, -⟩ := hN.2.2 b hb
  have ny : h3.2.1 201 0 = nI s.1 := M.1
  refine pa_if_t (pc' := 18) dX12_heardIn_9 (by decide) (by decide) ?_
  refine pa_iload_n (pc' := 19) dX12_heardIn_18 rfl rfl ?_
  refine pa_iconst (v := 0) (pc' := 20) dX12_heardIn_19 (by decide) rfl ?_
  refine pa_bipush (v := 99) (pc' := 22) dX12_heardIn_20 (by decide) rfl ?_
  refine pa_calls (pc' := 25) (kd := 1) (vs := [.inl y, .inl 0, .inl 99]) (rest := []) dX12_heardIn_22 ml_12_149 (.inl rfl) rfl rfl rfl (fun d' _ => in_v) (fun v g9 hq => ?_)
  obtain ⟨ev, eh⟩ := hq
  subst ev
  rw [eh]
  show zPn N none d mX12_heardIn (25, _, [.inl (if ((0 : Int32)).toInt ≤ (y).toInt ∧ (y).toInt ≤ ((99 : Int32)).toInt then 1 else 0)], h3) _
  rw [k0, show (99 : Int32).toInt = 99 by decide]
  by_cases hy : 0 ≤ y.toInt ∧ y.toInt ≤ 99
  case neg =>
    rw [if_neg hy]
    refine pa_if_t (pc' := 46) dX12_heardIn_25 (by decide) (by decide) ?_
    refine pa_aload_n (pc' := 47) dX12_heardIn_46 rfl rfl ?_
    refine pa_iconst (v := nI 2) (pc' := 48) dX12_heardIn_47 (by decide) rfl ?_
    refine pa_callv (pc' := 51) (vs := [.inl (nI 2)]) (rest := []) dX12_heardIn_48 ml_12_170 (by decide) rfl rfl rfl (fun d' _ => (m_no z196)) (fun v g hq => ?_)
    obtain ⟨ev, eh⟩ := hq
    subst ev
    show zPn N none d mX12_heardIn (51, _, [.inl ((-1))], g) _
    refine pa_iret dX12_heardIn_51 rfl rfl ?_
    unfold hiV
    rw [if_neg (fun q => hy q.2)]
  rw [if_pos hy]
  obtain ⟨n, rfl, hn, en⟩ := nI_ob (n := 100) hy.1 (by omega)
  have hr : ∀ d, zPa d mX12_hearsIn [.inr (.inr (some 196)), .inl (nI b), .inl (nI (s.1 + n)), .inl (-1), .inl 0] h3 (fun v g => v = some (.inl (heA A (s.2.2.2.2.2 b) (s.1 + n))) ∧ g = h3) := fun d => M_hearsIn B.2.2.1 (by omega) (M_cpr B hb).1 (num_box hI hB hT hb).2.1 rfl (by omega) (M_cpr B hb).2 ol ok
  refine pa_if_f (pc' := 28) dX12_heardIn_25 (by decide) (by decide) rfl ?_
  refine pa_aload_n (pc' := 29) dX12_heardIn_28 rfl rfl ?_
  refine pa_iload_n (pc' := 30) dX12_heardIn_29 rfl rfl ?_
  refine pa_aload_n (pc' := 31) dX12_heardIn_30 rfl rfl ?_
  refine pa_getR (pc' := 34) (n := 39) (r := 201) dX12_heardIn_31 fl_12_26 z196 (by decide) q17 rfl ?_
  refine pa_iconst (v := nI 0) (pc' := 35) dX12_heardIn_34 (by decide) rfl ?_
  refine pa_iald (pc' := 36) dX12_heardIn_35 z201 rfl (fun _ => ?_)
  rw [nI_clamp (by omega), ny]
  refine pa_iload_n (pc' := 37) dX12_heardIn_36 rfl rfl ?_
  refine pa_iadd (pc' := 38) (v := nI (s.1 + n)) dX12_heardIn_37 (nI_add _ _) rfl ?_
  refine pa_iconst (v := (-1)) (pc' := 39) dX12_heardIn_38 (by decide) rfl ?_
  refine pa_iconst (v := 0) (pc' := 40) dX12_heardIn_39 (by decide) rfl ?_
  refine pa_callv (pc' := 43) (vs := [.inl (nI b), .inl (nI (s.1 + n)), .inl ((-1)), .inl 0]) (rest := []) dX12_heardIn_40 ml_12_291 (by decide) rfl rfl rfl (fun d' _ => hr d') (fun v g9 hq => ?_)
  obtain ⟨ev, eh⟩ := hq
  subst ev
  rw [eh]
  show zPn N none d mX12_heardIn (43, _, [.inl (heA A (s.2.2.2.2.2 b) (s.1 + n))], h3) _
  refine pa_goto (pc' := 51) dX12_heardIn_43 (by decide) ?_
  refine pa_iret dX12_heardIn_51 rfl rfl ?_
  unfold hiV
  rw [if_pos ⟨hx, hy⟩, eb, en]
theorem N_sets11 (z : lZ A c s H J h) (hi : lInv t h) : zPa d mX11_sets [.inr (.inr (some 0)), .inl x, .inl k, .inl y] h (fun v _ => v = some (.inl (seV A s x k y))) := by
  intro N
  have h1 := hi.2.2.2.2.1
  have hA := z.1.1
  have hT := z.1.2.1
  have hB := z.1.2.2
  have hI := hA.1
  have hN := z.2.1.1
  have K := hA.2.2.2.1
  have hc2 : c = 2 ∨ c = 42 := hA.2.1
  obtain ⟨b1, b2, b3, b4, b5⟩ := hI.2.2.1
  have s0 : zsh h 0 = some (11, 16) := zsh_by h1 (by decide +kernel)
  obtain ⟨sc, sc1, sc2, sc4, sc5, scw, scb⟩ := cSh hA.2.1 h1
  obtain ⟨c9, c12, c13, cw, cb⟩ := cRf_of hi.1 hA.2.1
  have S := hi.nw
  obtain ⟨⟨s86, s87, s88, s89, s90, s91⟩, r87, r88, r89, r90, r91⟩ := S.o86
  have r3 := hA.2.2.1
  have r6 := S.2.1
  obtain ⟨n1, n2, n3, n4⟩ := z.2.2.1.1
  show zPn N none d mX11_sets (0, [(0, .inr (.inr (some 0))), (1, .inl x), (2, .inl k), (3, .inl y)], [], h) _
  refine pa_aload_n (pc' := 1) dX11_sets_0 rfl rfl ?_
  refine pa_iload_n (pc' := 2) dX11_sets_1 rfl rfl ?_
  refine pa_callv (pc' := 5) (vs := [.inl x]) (rest := []) dX11_sets_2 ml_11_121 (by decide) rfl rfl rfl (fun d' _ => (N_isWhale hA h1)) (fun v g9 hq => ?_)
  obtain ⟨ev, eh⟩ := hq
  subst ev
  rw [eh]
  show zPn N none d mX11_sets (5, _, [.inl (if 0 ≤ x.toInt ∧ x.toInt < (cH A:Int) then 1 else 0)], h) _
  by_cases hx : 0 ≤ x.toInt ∧ x.toInt < (cH A : Int)
  case neg =>
    rw [if_neg hx]
    refine pa_if_t (pc' := 16) dX11_sets_5 (by decide) (by decide) ?_
    refine pa_aload_n (pc' := 17) dX11_sets_16 rfl rfl ?_
    refine pa_iconst (v := nI 1) (pc' := 18) dX11_sets_17 (by decide) rfl ?_
    refine pa_callv (pc' := 21) (vs := [.inl (nI 1)]) (rest := []) dX11_sets_18 ml_11_98 (by decide) rfl rfl rfl (fun d' _ => (c_ref s0)) (fun v g hq => ?_)
    obtain ⟨ev, eh⟩ := hq
    subst ev
    show zPn N none d mX11_sets (21, _, [.inl ((-1))], g) _
    refine pa_iret dX11_sets_21 rfl rfl ?_
    unfold seV
    rw [if_neg (fun q => hx q.1.1)]
  rw [if_pos hx]
  refine pa_if_f (pc' := 8) dX11_sets_5 (by decide) (by decide) rfl ?_
  refine pa_aload_n (pc' := 9) dX11_sets_8 rfl rfl ?_
  refine pa_iload_n (pc' := 10) dX11_sets_9 rfl rfl ?_
  refine pa_callv (pc' := 13) (vs := [.inl k]) (rest := []) dX11_sets_10 ml_11_230 (by decide) rfl rfl rfl (fun d' _ => (N_isWay hA h1)) (fun v g9 hq => ?_)
  obtain ⟨ev, eh⟩ := hq
  subst ev
  rw [eh]
  show zPn N none d mX11_sets (13, _, [.inl (if 0 ≤ k.toInt ∧ k.toInt < (cW A:Int) then 1 else 0)], h) _
  by_cases hk : 0 ≤ k.toInt ∧ k.toInt < (cW A : Int)
  case neg =>
    rw [if_neg hk]
    refine pa_if_f (pc' := 16) dX11_sets_13 (by decide) (by decide) rfl ?_
    refine pa_aload_n (pc' := 17) dX11_sets_16 rfl rfl ?_
    refine pa_iconst (v := nI 1) (pc' := 18) dX11_sets_17 (by decide) rfl ?_
    refine pa_callv (pc' := 21) (vs := [.inl (nI 1)]) (rest := []) dX11_sets_18 ml_11_98 (by decide) rfl rfl rfl (fun d' _ => (c_ref s0)) (fun v g hq => ?_)
    obtain ⟨ev, eh⟩ := hq
    subst ev
    show zPn N none d mX11_sets (21, _, [.inl ((-1))], g) _
    refine pa_iret dX11_sets_21 rfl rfl ?_
    unfold seV
    rw [if_neg (fun q => hk q.1.2)]
  rw [if_pos hk]
  refine pa_if_t (pc' := 22) dX11_sets_13 (by decide) (by decide) ?_
  refine pa_iload_n (pc' := 23) dX11_sets_22 rfl rfl ?_
  refine pa_sipush (v := 9999) (pc' := 26) dX11_sets_23 (by decide) rfl ?_
  refine pa_calls (pc' := 29) (kd := 1) (vs := [.inl y, .inl 9999]) (rest := []) dX11_sets_26 ml_11_227 (.inl rfl) rfl rfl rfl (fun d' _ => N_inQ) (fun v g9 hq => ?_)
  obtain ⟨ev, eh⟩ := hq
  subst ev
  rw [eh]
  show zPn N none d mX11_sets (29, _, [.inl (if 0 ≤ (y).toInt ∧ (y).toInt ≤ ((9999 : Int32)).toInt then 1 else 0)], h) _
  rw [show (9999 : Int32).toInt = 9999 by decide]
  by_cases hy : 0 ≤ y.toInt ∧ y.toInt ≤ 9999
  case neg =>
    rw [if_neg hy]
    refine pa_if_f (pc' := 32) dX11_sets_29 (by decide) (by decide) rfl ?_
    refine pa_aload_n (pc' := 33) dX11_sets_32 rfl rfl ?_
    refine pa_iconst (v := nI 2) (pc' := 34) dX11_sets_33 (by decide) rfl ?_
    refine pa_callv (pc' := 37) (vs := [.inl (nI 2)]) (rest := []) dX11_sets_34 ml_11_98 (by decide) rfl rfl rfl (fun d' _ => (c_ref s0)) (fun v g hq => ?_)
    obtain ⟨ev, eh⟩ := hq
    subst ev
    show zPn N none d mX11_sets (37, _, [.inl ((-1))], g) _
    refine pa_iret dX11_sets_37 rfl rfl ?_
    unfold seV
    rw [if_neg (fun q => hy q.2)]
  rw [if_pos hy]
  obtain ⟨w, rfl, hw, ew⟩ := nI_ob hx.1 hx.2
  obtain ⟨j, rfl, hj, ej⟩ := nI_ob hk.1 hk.2
  obtain ⟨n, rfl, hn, en⟩ := nI_ob (n := 10000) hy.1 (by omega)
  have B := z.bc hi (hA.hasH hw)
  have V : seV A s (nI w) (nI j) (nI n) = if clB s.2.1 j = true then -2 else nI (gLv (kdA A w) (opA A j) n) := by
    unfold seV
    rw [if_pos ⟨⟨hx, hk⟩, hy⟩, ew, ej, en]
  rw [V]
  refine pa_if_t (pc' := 38) dX11_sets_29 (by decide) (by decide) ?_
  refine pa_aload_n (pc' := 39) dX11_sets_38 rfl rfl ?_
  refine pa_getR (pc' := 42) (n := 16) (r := 86) dX11_sets_39 fl_11_42 s0 (by decide) r6 rfl ?_
  refine pa_iload_n (pc' := 43) dX11_sets_42 rfl rfl ?_
  refine pa_callv (pc' := 46) (vs := [.inl (nI j)]) (rest := []) dX11_sets_43 ml_11_210 (by decide) rfl rfl rfl (fun d' _ => (N_isClosed h1 n2)) (fun v g9 hq => ?_)
  obtain ⟨ev, eh⟩ := hq
  subst ev
  rw [eh]
  show zPn N none d mX11_sets (46, _, [.inl (if clB s.2.1 j = true then 1 else 0)], h) _
  by_cases q : clB s.2.1 j = true
  · rw [if_pos q, if_pos q]
    refine pa_if_f (pc' := 49) dX11_sets_46 (by decide) (by decide) rfl ?_
    refine pa_aload_n (pc' := 50) dX11_sets_49 rfl rfl ?_
    refine pa_bipush (v := (-2)) (pc' := 52) dX11_sets_50 (by decide) rfl ?_
    refine pa_callv (pc' := 55) (vs := [.inl ((-2))]) (rest := []) dX11_sets_52 ml_11_112 (by decide) rfl rfl rfl (fun d' _ => (c_gra s0)) (fun v g9 hq => ?_)
    obtain ⟨ev, eh⟩ := hq
    subst ev
    show zPn N none d mX11_sets (55, _, [.inl (((-2)))], g9) _
    refine pa_iret dX11_sets_55 rfl rfl ?_
    rfl
  · rw [if_neg q, if_neg q]
    have sw := scw w (by omega)
    have rw_ := cw w (by omega)
    have ek := K.wh (j := 0) hT hI hw (by decide)
    have sy := B.2.1.wy (k := j) (by omega)
    have s94 : zsh h 94 = some (6, 7) := zsh_by h1 (by decide +kernel)
    have s3 : zsh h (c + 3) = some (19, 12) := by
      rcases hc2 with e | e <;> subst e <;> exact zsh_by h1 (by decide +kernel)
    have r8 := hi.r8
    have r11 := B.2.1.2.2.2.1.2.2.2.1
    have ry := B.2.1.2.2.2.1.2.2.2.2 j (by omega)
    have eo := (B.2.1.2.2.2.2.2 j hj).2.2.2.1
    refine pa_if_t (pc' := 56) dX11_sets_46 (by decide) (by decide) ?_
    refine pa_aload_n (pc' := 57) dX11_sets_56 rfl rfl ?_
    refine pa_aload_n (pc' := 58) dX11_sets_57 rfl rfl ?_
    refine pa_getR (pc' := 61) (n := 16) (r := 94) dX11_sets_58 fl_11_60 s0 (by decide) r8 rfl ?_
    refine pa_aload_n (pc' := 62) dX11_sets_61 rfl rfl ?_
    refine pa_getR (pc' := 65) (n := 16) (r := c) dX11_sets_62 fl_11_23 s0 (by decide) r3 rfl ?_
    refine pa_getR (pc' := 68) (n := 15) (r := c + 4) dX11_sets_65 fl_11_125 sc (by decide) c12 rfl ?_
    refine pa_iload_n (pc' := 69) dX11_sets_68 rfl rfl ?_
    refine pa_aald (pc' := 70) (r := c + 19 + w) dX11_sets_69 sc4 (by decide) (zn_in (by omega) (by omega)) (by rw [nI_clamp (by omega)]; exact rw_) rfl ?_
    refine pa_getI (pc' := 73) (n := 4) (v := kdA A w) dX11_sets_70 fl_11_129 sw (by decide) ek rfl ?_
    refine pa_aload_n (pc' := 74) dX11_sets_73 rfl rfl ?_
    refine pa_getR (pc' := 77) (n := 16) (r := c) dX11_sets_74 fl_11_23 s0 (by decide) r3 rfl ?_
    refine pa_getR (pc' := 80) (n := 15) (r := c + 3) dX11_sets_77 fl_11_213 sc (by decide) r11 rfl ?_
    refine pa_iload_n (pc' := 81) dX11_sets_80 rfl rfl ?_
    refine pa_aald (pc' := 82) (r := c + 7 + j) dX11_sets_81 s3 (by decide) (zn_in (by omega) (by omega)) (by rw [nI_clamp (by omega)]; exact ry) rfl ?_
    refine pa_getI (pc' := 85) (n := 4) (v := opA A j) dX11_sets_82 fl_11_233 sy (by decide) eo rfl ?_
    refine pa_iload_n (pc' := 86) dX11_sets_85 rfl rfl ?_
    refine pa_callv (pc' := 89) (vs := [.inl (kdA A w), .inl (opA A j), .inl (nI n)]) (rest := [.inr (.inr (some 0))]) dX11_sets_86 ml_11_236 (by decide) rfl rfl rfl (fun d' _ => (N_leaveA (by omega))) (fun v g9 hq => ?_)
    obtain ⟨ev, eh⟩ := hq
    subst ev
    rw [eh]
    show zPn N none d mX11_sets (89, _, [.inl (nI (gLv (kdA A w) (opA A j) n)), .inr (.inr (some 0))], h) _
    refine pa_callv (pc' := 92) (vs := [.inl (nI (gLv (kdA A w) (opA A j) n))]) (rest := []) dX11_sets_89 ml_11_112 (by decide) rfl rfl rfl (fun d' _ => (c_gra s0)) (fun v g9 hq => ?_)
    obtain ⟨ev, eh⟩ := hq
    subst ev
    show zPn N none d mX11_sets (92, _, [.inl (nI ((gLv (kdA A w) (opA A j) n)))], g9) _
    refine pa_iret dX11_sets_92 rfl rfl ?_
    rfl
theorem N_sets12 (z : lZ A c s H J g) (m : lMid kk im t g h) : zPa d mX12_sets [.inr (.inr (some 196)), .inl x, .inl k, .inl y] h (fun v _ => v = some (.inl (seV A s x k y))) := by
  intro N
  have s196 : zsh h 196 = some (12, 39) := zsh_by m.2.1.2.2.2 (by decide +kernel)
  generalize eg : zsI (zsI h 196 0 0) 196 11 0 = h2
  have e2 : ∀ a k, a ≠ 196 → h2.2.1 a k = h.2.1 a k := fun a k ha => by rw [← eg, zsI_no (by omega), zsI_no (by omega)]
  have e3 : ∀ k, k ≠ 0 → k ≠ 11 → h2.2.1 196 k = h.2.1 196 k := fun k w1 w2 => by rw [← eg, zsI_no (by omega), zsI_no (by omega)]
  have h1 : h2.1 = hh_487.1 := by rw [← eg]; exact m.2.1.2.2.2
  have hA : lPA A c h2 := by rw [← eg]; exact (m.pa z.1.1).gd
  have B : cI A ≠ 0 → bgM A s h2 := fun ne => by rw [← eg]; exact (z.bm m ne).gd
  have er : h2.2.2.2.1 = h.2.2.2.1 := by rw [← eg]; rfl
  have q15 : h2.2.2.2.1 196 15 = some 199 := by rw [er]; exact m.r15
  have q17 : h2.2.2.2.1 196 17 = some 201 := by rw [er]; exact m.mw.2.1
  have z196 : zsh h2 196 = some (12, 39) := zsh_by h1 (by decide +kernel)
  have z199 : zsh h2 199 = some (14, 363) := zsh_by h1 (by decide +kernel)
  have z201 : zsh h2 201 = some (14, 76) := zsh_by h1 (by decide +kernel)
  have M : nMo A s 201 0 h2 := (z.lm m).1.1.fr (fun k => e2 _ _ (by decide))
  have hT := z.1.2.1
  have hB := z.1.2.2
  have hI := z.1.1.1
  have hN := z.2.1.1
  have k0 : (0 : Int32).toInt = 0 := by decide
  obtain ⟨b1, b2, b3, b4, b5⟩ := hI.2.2.1
  show zPn N none d mX12_sets (0, [(0, .inr (.inr (some 196))), (1, .inl x), (2, .inl k), (3, .inl y)], [], h) _
  refine pa_aload_n (pc' := 1) dX12_sets_0 rfl rfl ?_
  refine pa_callv (pc' := 4) (vs := []) (rest := []) dX12_sets_1 ml_12_167 (by decide) rfl rfl rfl (fun d' _ => (m_good s196)) (fun v h3 hq => ?_)
  obtain ⟨ev, eh⟩ := hq
  subst ev
  show zPn N none d mX12_sets (4, _, [], h3) _
  rw [eg] at eh
  subst eh
  refine pa_aload_n (pc' := 5) dX12_sets_4 rfl rfl ?_
  refine pa_iload_n (pc' := 6) dX12_sets_5 rfl rfl ?_
  refine pa_callv (pc' := 9) (vs := [.inl x]) (rest := []) dX12_sets_6 ml_12_268 (by decide) rfl rfl rfl (fun d' _ => (M_isWhale hA q15 h1)) (fun v g9 hq => ?_)
  obtain ⟨ev, eh⟩ := hq
  subst ev
  rw [eh]
  show zPn N none d mX12_sets (9, _, [.inl (if 0 ≤ x.toInt ∧ x.toInt < (cH A:Int) then 1 else 0)], h3) _
  by_cases hx : 0 ≤ x.toInt ∧ x.toInt < (cH A : Int)
  case neg =>
    rw [if_neg hx]
    refine pa_if_t (pc' := 28) dX12_sets_9 (by decide) (by decide) ?_
    refine pa_aload_n (pc' := 29) dX12_sets_28 rfl rfl ?_
    refine pa_iconst (v := nI 1) (pc' := 30) dX12_sets_29 (by decide) rfl ?_
    refine pa_callv (pc' := 33) (vs := [.inl (nI 1)]) (rest := []) dX12_sets_30 ml_12_170 (by decide) rfl rfl rfl (fun d' _ => (m_no z196)) (fun v g hq => ?_)
    obtain ⟨ev, eh⟩ := hq
    subst ev
    show zPn N none d mX12_sets (33, _, [.inl ((-1))], g) _
    refine pa_iret dX12_sets_33 rfl rfl ?_
    unfold seV
    rw [if_neg (fun q => hx q.1.1)]
  rw [if_pos hx]
  obtain ⟨w, rfl, hw, ew⟩ := nI_ob hx.1 hx.2
  have B := B (hA.hasH hw)
  have e5 := B.2.1.2.2.2.2.1.2.1
  have pr := nI_prd (cW A) (by omega)
  refine pa_if_f (pc' := 12) dX12_sets_9 (by decide) (by decide) rfl ?_
  refine pa_iload_n (pc' := 13) dX12_sets_12 rfl rfl ?_
  refine pa_iconst (v := 0) (pc' := 14) dX12_sets_13 (by decide) rfl ?_
  refine pa_aload_n (pc' := 15) dX12_sets_14 rfl rfl ?_
  refine pa_getR (pc' := 18) (n := 39) (r := 199) dX12_sets_15 fl_12_20 z196 (by decide) q15 rfl ?_
  refine pa_iconst (v := nI 5) (pc' := 19) dX12_sets_18 (by decide) rfl ?_
  refine pa_iald (pc' := 20) dX12_sets_19 z199 rfl (fun _ => ?_)
  rw [nI_clamp (by omega), e5]
  refine pa_iconst (v := 1) (pc' := 21) dX12_sets_20 (by decide) rfl ?_
  refine pa_isub (pc' := 22) dX12_sets_21 rfl rfl ?_
  refine pa_calls (pc' := 25) (kd := 1) (vs := [.inl k, .inl 0, .inl ((nI (cW A)) - 1)]) (rest := []) dX12_sets_22 ml_12_149 (.inl rfl) rfl rfl rfl (fun d' _ => in_v) (fun v g9 hq => ?_)
  obtain ⟨ev, eh⟩ := hq
  subst ev
  rw [eh]
  show zPn N none d mX12_sets (25, _, [.inl (if ((0 : Int32)).toInt ≤ (k).toInt ∧ (k).toInt ≤ (((nI (cW A)) - 1)).toInt then 1 else 0)], h3) _
  rw [k0, pr]
  by_cases hk : 0 ≤ k.toInt ∧ k.toInt ≤ (cW A : Int) - 1
  case neg =>
    rw [if_neg hk]
    refine pa_if_f (pc' := 28) dX12_sets_25 (by decide) (by decide) rfl ?_
    refine pa_aload_n (pc' := 29) dX12_sets_28 rfl rfl ?_
    refine pa_iconst (v := nI 1) (pc' := 30) dX12_sets_29 (by decide) rfl ?_
    refine pa_callv (pc' := 33) (vs := [.inl (nI 1)]) (rest := []) dX12_sets_30 ml_12_170 (by decide) rfl rfl rfl (fun d' _ => (m_no z196)) (fun v g hq => ?_)
    obtain ⟨ev, eh⟩ := hq
    subst ev
    show zPn N none d mX12_sets (33, _, [.inl ((-1))], g) _
    refine pa_iret dX12_sets_33 rfl rfl ?_
    unfold seV
    rw [if_neg (fun q => hk (by omega))]
  rw [if_pos hk]
  have hk : 0 ≤ k.toInt ∧ k.toInt < (cW A : Int) := by omega
  obtain ⟨j, rfl, hj, ej⟩ := nI_ob hk.1 hk.2
  refine pa_if_t (pc' := 34) dX12_sets_25 (by decide) (by decide) ?_
  refine pa_iload_n (pc' := 35) dX12_sets_34 rfl rfl ?_
  refine pa_iconst (v := 0) (pc' := 36) dX12_sets_35 (by decide) rfl ?_
  refine pa_sipush (v := 9999) (pc' := 39) dX12_sets_36 (by decide) rfl ?_
  refine pa_calls (pc' := 42) (kd := 1) (vs := [.inl y, .inl 0, .inl 9999]) (rest := []) dX12_sets_39 ml_12_149 (.inl rfl) rfl rfl rfl (fun d' _ => in_v) (fun v g9 hq => ?_)
  obtain ⟨ev, eh⟩ := hq
  subst ev
  rw [eh]
  show zPn N none d mX12_sets (42, _, [.inl (if ((0 : Int32)).toInt ≤ (y).toInt ∧ (y).toInt ≤ ((9999 : Int32)).toInt then 1 else 0)], h3) _
  rw [k0, show (9999 : Int32).toInt = 9999 by decide]
  by_cases hy : 0 ≤ y.toInt ∧ y.toInt ≤ 9999
  case neg =>
    rw [if_neg hy]
    refine pa_if_f (pc' := 45) dX12_sets_42 (by decide) (by decide) rfl ?_
    refine pa_aload_n (pc' := 46) dX12_sets_45 rfl rfl ?_
    refine pa_iconst (v := nI 2) (pc' := 47) dX12_sets_46 (by decide) rfl ?_
    refine pa_callv (pc' := 50) (vs := [.inl (nI 2)]) (rest := []) dX12_sets_47 ml_12_170 (by decide) rfl rfl rfl (fun d' _ => (m_no z196)) (fun v g hq => ?_)
    obtain ⟨ev, eh⟩ := hq
    subst ev
    show zPn N none d mX12_sets (50, _, [.inl ((-1))], g) _
    refine pa_iret dX12_sets_50 rfl rfl ?_
    unfold seV
    rw [if_neg (fun q => hy q.2)]
  rw [if_pos hy]
  obtain ⟨n, rfl, hn, en⟩ := nI_ob (n := 10000) hy.1 (by omega)
  have V : seV A s (nI w) (nI j) (nI n) = if clB s.2.1 j = true then -2 else nI (gLv (kdA A w) (opA A j) n) := by
    unfold seV
    rw [if_pos ⟨⟨hx, hk⟩, hy⟩, ew, ej, en]
  rw [V]
  refine pa_if_t (pc' := 51) dX12_sets_42 (by decide) (by decide) ?_
  refine pa_aload_n (pc' := 52) dX12_sets_51 rfl rfl ?_
  refine pa_iload_n (pc' := 53) dX12_sets_52 rfl rfl ?_
  refine pa_callv (pc' := 56) (vs := [.inl (nI j)]) (rest := []) dX12_sets_53 ml_12_302 (by decide) rfl rfl rfl (fun d' _ => (M_isClosed B.2.1)) (fun v g9 hq => ?_)
  obtain ⟨ev, eh⟩ := hq
  subst ev
  rw [eh]
  show zPn N none d mX12_sets (56, _, [.inl (if clB s.2.1 j = true then 1 else 0)], h3) _
  by_cases q : clB s.2.1 j = true
  · rw [if_pos q, if_pos q]
    refine pa_if_f (pc' := 59) dX12_sets_56 (by decide) (by decide) rfl ?_
    refine pa_bipush (v := (-2)) (pc' := 61) dX12_sets_59 (by decide) rfl ?_
    refine pa_goto (pc' := 76) dX12_sets_61 (by decide) ?_
    refine pa_iret dX12_sets_76 rfl rfl ?_
    rfl
  · rw [if_neg q, if_neg q]
    refine pa_if_t (pc' := 64) dX12_sets_56 (by decide) (by decide) ?_
    refine pa_aload_n (pc' := 65) dX12_sets_64 rfl rfl ?_
    refine pa_iload_n (pc' := 66) dX12_sets_65 rfl rfl ?_
    refine pa_aload_n (pc' := 67) dX12_sets_66 rfl rfl ?_
    refine pa_iload_n (pc' := 68) dX12_sets_67 rfl rfl ?_
    refine pa_iconst (v := nI 0) (pc' := 69) dX12_sets_68 (by decide) rfl ?_
    refine pa_callv (pc' := 72) (vs := [.inl (nI w), .inl (nI 0)]) (rest := [.inl (nI j), .inr (.inr (some 196))]) dX12_sets_69 ml_12_271 (by decide) rfl rfl rfl (fun d' _ => (M_ofWhale (j := 0) B hw (by decide))) (fun v g9 hq => ?_)
    obtain ⟨ev, eh⟩ := hq
    subst ev
    rw [eh]
    show zPn N none d mX12_sets (72, _, [.inl (kdA A w), .inl (nI j), .inr (.inr (some 196))], h3) _
    refine pa_iload_n (pc' := 73) dX12_sets_72 rfl rfl ?_
    refine pa_callv (pc' := 76) (vs := [.inl (nI j), .inl (kdA A w), .inl (nI n)]) (rest := []) dX12_sets_73 ml_12_334 (by decide) rfl rfl rfl (fun d' _ => (M_setsOutA B.2.1 hj (opA_ok hI hB hT j).1 (by omega))) (fun v g9 hq => ?_)
    obtain ⟨ev, eh⟩ := hq
    subst ev
    rw [eh]
    show zPn N none d mX12_sets (76, _, [.inl (nI (gLv (kdA A w) (opA A j) n))], h3) _
    refine pa_iret dX12_sets_76 rfl rfl ?_
    rfl
end AN3
/-! answers: arrival, brings, soonest, surest, by -/
def arivV (A : pA) (s : nS) (x f o y : Int32) : Int32 := if ((0 ≤ x.toInt ∧ x.toInt < (cH A : Int)) ∧ (0 ≤ f.toInt ∧ f.toInt < (cI A : Int)) ∧ 0 ≤ o.toInt ∧ o.toInt < (cI A : Int)) ∧ 0 ≤ y.toInt ∧ y.toInt ≤ 9999 then arV (dyD A (kdA A x.toInt.toNat) s.2.1 f.toInt.toNat y.toInt.toNat) o.toInt.toNat else -1
def brgV (A : pA) (s : nS) (x y : Int32) : Int32 := if (0 ≤ x.toInt ∧ x.toInt < (cH A : Int)) ∧ 0 ≤ y.toInt ∧ y.toInt < (cB A : Int) then brR A x.toInt.toNat (brV A s x.toInt.toNat y.toInt.toNat) else -1
/-- the day on which a whale brings a box -/
def bD (A : pA) (s : nS) (w b : Nat) : Option Nat := (brV A s w b).map (fun p => p.2.1 + nu A (109 + 4 * w))
def dV : Option Nat → Int32
  | some d => nI d
  | none => -2
def qV : Option (Nat × Nat) → Int32
  | some q => nI q.1
  | none => -2
def rV : Option (Nat × Nat) → Nat
  | some q => q.2
  | none => 0
def soS (A : pA) (s : nS) (b w : Nat) (r : Option (Nat × Nat)) : Option (Nat × Nat) := match bD A s w b with
  | none => r
  | some d => match r with
    | none => some (w, d)
    | some q => if d < q.2 then some (w, d) else some q
def soF (A : pA) (s : nS) (b : Nat) : Nat → Option (Nat × Nat)
  | 0 => none
  | w + 1 => soS A s b w (soF A s b w)
def suS (A : pA) (s : nS) (b : Nat) (but : Option Nat) (w : Nat) (r : Option Nat) : Option Nat := if some w = but then r else match bD A s w b with
  | none => r
  | some _ => match r with
    | none => some w
    | some q => if nu A (110 + 4 * w) < nu A (110 + 4 * q) then some w else some q
def suF (A : pA) (s : nS) (b : Nat) (but : Option Nat) : Nat → Option Nat
  | 0 => none
  | w + 1 => suS A s b but w (suF A s b but w)
def byS (A : pA) (s : nS) (b D w : Nat) (r : Int32) : Int32 := match bD A s w b with
  | none => r
  | some d => if d ≤ D then r ||| (nI 1 <<< (nI w &&& 31)) else r
def byF (A : pA) (s : nS) (b D : Nat) : Nat → Int32
  | 0 => 0
  | w + 1 => byS A s b D w (byF A s b D w)
def byV (A : pA) (s : nS) (x y : Int32) : Int32 := if (0 ≤ x.toInt ∧ x.toInt < (cB A : Int)) ∧ 0 ≤ y.toInt ∧ y.toInt ≤ 99999 then byF A s x.toInt.toNat y.toInt.toNat (cH A) else -1
section AN4
variable {t d N c w b : Nat} {h g : zH} {A : pA} {s : nS} {H J : List nS} {x y f o : Int32} {kk : Bool} {im : Int32} {but : Option Nat}
theorem brR_bD : brR A w (brV A s w b) = dV (bD A s w b) := by
  unfold bD
  cases brV A s w b <;> rfl
theorem bD_le (hI : pI A) (hB : tB A) (hT : tA A) (hN : nOK A s) (hw : w < cH A) (hb : b < cB A) {D : Nat} (e : bD A s w b = some D) : D ≤ 709776 := by
  have b4 := hI.2.2.1.2.2.2.1
  unfold bD at e
  cases o : brV A s w b with
  | none =>
    rw [o] at e
    cases e
  | some p =>
    rw [o] at e
    have e : p.2.1 + nu A (109 + 4 * w) = D := Option.some.inj e
    obtain ⟨v1, -, v3⟩ := brV_ok hI hB hT hN hw hb o
    have := nSn_lt v1 (cB A) hb
    have := Nat.mul_le_mul_left 88722 (show nSn s (cB A) + 1 ≤ 8 by omega)
    omega
theorem soF_in : ∀ n q, soF A s b n = some q → q.1 < n ∧ bD A s q.1 b = some q.2
  | 0, q, e => nomatch e
  | n + 1, q, e => by
    have e : soS A s b n (soF A s b n) = some q := e
    have ih := soF_in n
    unfold soS at e
    cases o : bD A s n b with
    | none =>
      rw [o] at e
      have := ih q e
      exact ⟨by omega, this.2⟩
    | some D =>
      rw [o] at e
      dsimp only at e
      cases r : soF A s b n with
      | none =>
        rw [r] at e
        cases e
        exact ⟨Nat.lt_succ_self _, o⟩
      | some p =>
        rw [r] at e
        dsimp only at e
        split at e
        · cases e
          exact ⟨Nat.lt_succ_self _, o⟩
        · cases e
          have := ih _ r
          exact ⟨by omega, this.2⟩
theorem suF_in : ∀ n q, suF A s b but n = some q → q < n ∧ ∃ D, bD A s q b = some D
  | 0, q, e => nomatch e
  | n + 1, q, e => by
    have e : suS A s b but n (suF A s b but n) = some q := e
    have ih := suF_in n
    have old : ∀ p, suF A s b but n = some p → p < n + 1 ∧ ∃ D, bD A s p b = some D := fun p hp => ⟨by have := (ih p hp).1; omega, (ih p hp).2⟩
    unfold suS at e
    split at e
    · exact old _ e
    · cases o : bD A s n b with
      | none =>
        rw [o] at e
        exact old _ e
      | some D =>
        rw [o] at e
        dsimp only at e
        cases r : suF A s b but n with
        | none =>
          rw [r] at e
          cases e
          exact ⟨Nat.lt_succ_self _, D, o⟩
        | some p =>
          rw [r] at e
          dsimp only at e
          split at e
          · cases e
            exact ⟨Nat.lt_succ_self _, D, o⟩
          · cases e
            exact old _ r
theorem N_fda (B : bgC A c s h) {kd : Int32} {fm to x0 : Nat} (hf : fm < cI A) (hto : to < cI A) (hx : x0 ≤ 700000) : zPa d mX6_firstDayAt [.inr (.inr (some 94)), .inl kd, .inl (nI fm), .inl (nI to), .inl (nI x0)] h (fun v g => v = some (.inl (arV (dyD A kd s.2.1 fm x0) to)) ∧ gF 95 h g) := by
  obtain ⟨hI, hT, hB, hN⟩ := B.1
  have b1 := hI.2.2.1.1
  have dq := days_eq (x0 := x0) (n := cI A) (W := cW A) (dyG_R hI hB hT kd s.2.1 fm) (wab hB) hf
  have := N_firstDayAt (d := d) (kd := kd) B.2.1 B.2.2.2.1.2.1 B.2.2.1.2.2.2.1.2.2.2 b1 (fm := fm) (by omega) (to := to) (by omega) hx (dyG_R hI hB hT kd s.2.1 fm)
  rw [dq] at this
  exact this.mono (fun v g e => ⟨e.1, e.2.1⟩)
theorem M_arr (B : bgM A s h) {kd : Int32} {fm to x0 : Nat} (hf : fm < cI A) (hto : to < cI A) (hx : x0 ≤ 700000) : zPa d mX12_arrivalOf [.inr (.inr (some 196)), .inl kd, .inl (nI fm), .inl (nI to), .inl (nI x0)] h (fun v g => v = some (.inl (arV (dyD A kd s.2.1 fm x0) to)) ∧ gF2 h g) := by
  obtain ⟨hI, hT, hB, hN⟩ := B.1
  have b1 := hI.2.2.1.1
  exact (M_arrivalOf B.2.1 (fun k _ => (opA_ok hI hB hT k).1) (dyG_R hI hB hT kd s.2.1 fm) (by omega) (by omega) hx).mono (fun v g e => ⟨e.1, e.2.1⟩)
theorem N_arrival11 (z : lZ A c s H J h) (hi : lInv t h) : zPa d mX11_arrival [.inr (.inr (some 0)), .inl x, .inl f, .inl o, .inl y] h (fun v _ => v = some (.inl (arivV A s x f o y))) := by
  intro N
  have h1 := hi.2.2.2.2.1
  have hA := z.1.1
  have hT := z.1.2.1
  have hB := z.1.2.2
  have hI := hA.1
  have hN := z.2.1.1
  have K := hA.2.2.2.1
  have hc2 : c = 2 ∨ c = 42 := hA.2.1
  obtain ⟨b1, b2, b3, b4, b5⟩ := hI.2.2.1
  have s0 : zsh h 0 = some (11, 16) := zsh_by h1 (by decide +kernel)
  obtain ⟨sc, sc1, sc2, sc4, sc5, scw, scb⟩ := cSh hA.2.1 h1
  obtain ⟨c9, c12, c13, cw, cb⟩ := cRf_of hi.1 hA.2.1
  have S := hi.nw
  obtain ⟨⟨s86, s87, s88, s89, s90, s91⟩, r87, r88, r89, r90, r91⟩ := S.o86
  have r3 := hA.2.2.1
  have r6 := S.2.1
  obtain ⟨n1, n2, n3, n4⟩ := z.2.2.1.1
  show zPn N none d mX11_arrival (0, [(0, .inr (.inr (some 0))), (1, .inl x), (2, .inl f), (3, .inl o), (4, .inl y)], [], h) _
  refine pa_aload_n (pc' := 1) dX11_arrival_0 rfl rfl ?_
  refine pa_iload_n (pc' := 2) dX11_arrival_1 rfl rfl ?_
  refine pa_callv (pc' := 5) (vs := [.inl x]) (rest := []) dX11_arrival_2 ml_11_121 (by decide) rfl rfl rfl (fun d' _ => (N_isWhale hA h1)) (fun v g9 hq => ?_)
  obtain ⟨ev, eh⟩ := hq
  subst ev
  rw [eh]
  show zPn N none d mX11_arrival (5, _, [.inl (if 0 ≤ (x).toInt ∧ (x).toInt < (cH A:Int) then 1 else 0)], h) _
  by_cases hx : 0 ≤ x.toInt ∧ x.toInt < (cH A : Int)
  case neg =>
    rw [if_neg hx]
    refine pa_if_t (pc' := 24) dX11_arrival_5 (by decide) (by decide) ?_
    refine pa_aload_n (pc' := 25) dX11_arrival_24 rfl rfl ?_
    refine pa_iconst (v := nI 1) (pc' := 26) dX11_arrival_25 (by decide) rfl ?_
    refine pa_callv (pc' := 29) (vs := [.inl (nI 1)]) (rest := []) dX11_arrival_26 ml_11_98 (by decide) rfl rfl rfl (fun d' _ => (c_ref s0)) (fun v g hq => ?_)
    obtain ⟨ev, eh⟩ := hq
    subst ev
    show zPn N none d mX11_arrival (29, _, [.inl ((-1))], g) _
    refine pa_iret dX11_arrival_29 rfl rfl ?_
    unfold arivV
    rw [if_neg (fun q => hx q.1.1)]
  rw [if_pos hx]
  refine pa_if_f (pc' := 8) dX11_arrival_5 (by decide) (by decide) rfl ?_
  refine pa_aload_n (pc' := 9) dX11_arrival_8 rfl rfl ?_
  refine pa_iload_n (pc' := 10) dX11_arrival_9 rfl rfl ?_
  refine pa_callv (pc' := 13) (vs := [.inl f]) (rest := []) dX11_arrival_10 ml_11_174 (by decide) rfl rfl rfl (fun d' _ => (N_isI11 hA h1)) (fun v g9 hq => ?_)
  obtain ⟨ev, eh⟩ := hq
  subst ev
  rw [eh]
  show zPn N none d mX11_arrival (13, _, [.inl (if 0 ≤ (f).toInt ∧ (f).toInt < (cI A:Int) then 1 else 0)], h) _
  by_cases hf : 0 ≤ f.toInt ∧ f.toInt < (cI A : Int)
  case neg =>
    rw [if_neg hf]
    refine pa_if_t (pc' := 24) dX11_arrival_13 (by decide) (by decide) ?_
    refine pa_aload_n (pc' := 25) dX11_arrival_24 rfl rfl ?_
    refine pa_iconst (v := nI 1) (pc' := 26) dX11_arrival_25 (by decide) rfl ?_
    refine pa_callv (pc' := 29) (vs := [.inl (nI 1)]) (rest := []) dX11_arrival_26 ml_11_98 (by decide) rfl rfl rfl (fun d' _ => (c_ref s0)) (fun v g hq => ?_)
    obtain ⟨ev, eh⟩ := hq
    subst ev
    show zPn N none d mX11_arrival (29, _, [.inl ((-1))], g) _
    refine pa_iret dX11_arrival_29 rfl rfl ?_
    unfold arivV
    rw [if_neg (fun q => hf q.1.2.1)]
  rw [if_pos hf]
  refine pa_if_f (pc' := 16) dX11_arrival_13 (by decide) (by decide) rfl ?_
  refine pa_aload_n (pc' := 17) dX11_arrival_16 rfl rfl ?_
  refine pa_iload_n (pc' := 18) dX11_arrival_17 rfl rfl ?_
  refine pa_callv (pc' := 21) (vs := [.inl o]) (rest := []) dX11_arrival_18 ml_11_174 (by decide) rfl rfl rfl (fun d' _ => (N_isI11 hA h1)) (fun v g9 hq => ?_)
  obtain ⟨ev, eh⟩ := hq
  subst ev
  rw [eh]
  show zPn N none d mX11_arrival (21, _, [.inl (if 0 ≤ (o).toInt ∧ (o).toInt < (cI A:Int) then 1 else 0)], h) _
  by_cases ho : 0 ≤ o.toInt ∧ o.toInt < (cI A : Int)
  case neg =>
    rw [if_neg ho]
    refine pa_if_f (pc' := 24) dX11_arrival_21 (by decide) (by decide) rfl ?_
    refine pa_aload_n (pc' := 25) dX11_arrival_24 rfl rfl ?_
    refine pa_iconst (v := nI 1) (pc' := 26) dX11_arrival_25 (by decide) rfl ?_
    refine pa_callv (pc' := 29) (vs := [.inl (nI 1)]) (rest := []) dX11_arrival_26 ml_11_98 (by decide) rfl rfl rfl (fun d' _ => (c_ref s0)) (fun v g hq => ?_)
    obtain ⟨ev, eh⟩ := hq
    subst ev
    show zPn N none d mX11_arrival (29, _, [.inl ((-1))], g) _
    refine pa_iret dX11_arrival_29 rfl rfl ?_
    unfold arivV
    rw [if_neg (fun q => ho q.1.2.2)]
  rw [if_pos ho]
  refine pa_if_t (pc' := 30) dX11_arrival_21 (by decide) (by decide) ?_
  refine pa_iload (pc' := 32) dX11_arrival_30 rfl rfl ?_
  refine pa_sipush (v := 9999) (pc' := 35) dX11_arrival_32 (by decide) rfl ?_
  refine pa_calls (pc' := 38) (kd := 1) (vs := [.inl y, .inl 9999]) (rest := []) dX11_arrival_35 ml_11_227 (.inl rfl) rfl rfl rfl (fun d' _ => N_inQ) (fun v g9 hq => ?_)
  obtain ⟨ev, eh⟩ := hq
  subst ev
  rw [eh]
  show zPn N none d mX11_arrival (38, _, [.inl (if 0 ≤ (y).toInt ∧ (y).toInt ≤ ((9999 : Int32)).toInt then 1 else 0)], h) _
  rw [show (9999 : Int32).toInt = 9999 by decide]
  by_cases hy : 0 ≤ y.toInt ∧ y.toInt ≤ 9999
  case neg =>
    rw [if_neg hy]
    refine pa_if_f (pc' := 41) dX11_arrival_38 (by decide) (by decide) rfl ?_
    refine pa_aload_n (pc' := 42) dX11_arrival_41 rfl rfl ?_
    refine pa_iconst (v := nI 2) (pc' := 43) dX11_arrival_42 (by decide) rfl ?_
    refine pa_callv (pc' := 46) (vs := [.inl (nI 2)]) (rest := []) dX11_arrival_43 ml_11_98 (by decide) rfl rfl rfl (fun d' _ => (c_ref s0)) (fun v g hq => ?_)
    obtain ⟨ev, eh⟩ := hq
    subst ev
    show zPn N none d mX11_arrival (46, _, [.inl ((-1))], g) _
    refine pa_iret dX11_arrival_46 rfl rfl ?_
    unfold arivV
    rw [if_neg (fun q => hy q.2)]
  rw [if_pos hy]
  obtain ⟨w, rfl, hw, ew⟩ := nI_ob hx.1 hx.2
  obtain ⟨fm, rfl, hfm, ef⟩ := nI_ob hf.1 hf.2
  obtain ⟨to, rfl, hto, eo⟩ := nI_ob ho.1 ho.2
  obtain ⟨n, rfl, hn, en⟩ := nI_ob (n := 10000) hy.1 (by omega)
  have B := z.bc hi (hA.hasH hw)
  have sw := scw w (by omega)
  have rw_ := cw w (by omega)
  have ek := K.wh (j := 0) hT hI hw (by decide)
  have s94 : zsh h 94 = some (6, 7) := zsh_by h1 (by decide +kernel)
  have r8 := hi.r8
  refine pa_if_t (pc' := 47) dX11_arrival_38 (by decide) (by decide) ?_
  refine pa_aload_n (pc' := 48) dX11_arrival_47 rfl rfl ?_
  refine pa_aload_n (pc' := 49) dX11_arrival_48 rfl rfl ?_
  refine pa_getR (pc' := 52) (n := 16) (r := 94) dX11_arrival_49 fl_11_60 s0 (by decide) r8 rfl ?_
  refine pa_aload_n (pc' := 53) dX11_arrival_52 rfl rfl ?_
  refine pa_getR (pc' := 56) (n := 16) (r := c) dX11_arrival_53 fl_11_23 s0 (by decide) r3 rfl ?_
  refine pa_getR (pc' := 59) (n := 15) (r := c + 4) dX11_arrival_56 fl_11_125 sc (by decide) c12 rfl ?_
  refine pa_iload_n (pc' := 60) dX11_arrival_59 rfl rfl ?_
  refine pa_aald (pc' := 61) (r := c + 19 + w) dX11_arrival_60 sc4 (by decide) (zn_in (by omega) (by omega)) (by rw [nI_clamp (by omega)]; exact rw_) rfl ?_
  refine pa_getI (pc' := 64) (n := 4) (v := kdA A w) dX11_arrival_61 fl_11_129 sw (by decide) ek rfl ?_
  refine pa_iload_n (pc' := 65) dX11_arrival_64 rfl rfl ?_
  refine pa_iload_n (pc' := 66) dX11_arrival_65 rfl rfl ?_
  refine pa_iload (pc' := 68) dX11_arrival_66 rfl rfl ?_
  refine pa_callv (pc' := 71) (vs := [.inl (kdA A w), .inl (nI fm), .inl (nI to), .inl (nI n)]) (rest := [.inr (.inr (some 0))]) dX11_arrival_68 ml_11_280 (by decide) rfl rfl rfl (fun d' _ => (N_fda B hfm hto (by omega))) (fun v g hq => ?_)
  obtain ⟨ev, eh⟩ := hq
  subst ev
  show zPn N none d mX11_arrival (71, _, [.inl (arV (dyD A (kdA A w) s.2.1 fm n) to), .inr (.inr (some 0))], g) _
  have t0 : zsh g 0 = some (11, 16) := zsh_by (eh.1.trans h1) (by decide +kernel)
  refine pa_callv (pc' := 74) (vs := [.inl (arV (dyD A (kdA A w) s.2.1 fm n) to)]) (rest := []) dX11_arrival_71 ml_11_112 (by decide) rfl rfl rfl (fun d' _ => (c_gra t0)) (fun v g9 hq => ?_)
  obtain ⟨ev, eh⟩ := hq
  subst ev
  show zPn N none d mX11_arrival (74, _, [.inl ((arV (dyD A (kdA A w) s.2.1 fm n) to))], g9) _
  refine pa_iret dX11_arrival_74 rfl rfl ?_
  unfold arivV
  rw [if_pos ⟨⟨hx, hf, ho⟩, hy⟩, ew, ef, eo, en]
theorem N_arrival12 (z : lZ A c s H J g) (m : lMid kk im t g h) : zPa d mX12_arrival [.inr (.inr (some 196)), .inl x, .inl f, .inl o, .inl y] h (fun v _ => v = some (.inl (arivV A s x f o y))) := by
  intro N
  have s196 : zsh h 196 = some (12, 39) := zsh_by m.2.1.2.2.2 (by decide +kernel)
  generalize eg : zsI (zsI h 196 0 0) 196 11 0 = h2
  have e2 : ∀ a k, a ≠ 196 → h2.2.1 a k = h.2.1 a k := fun a k ha => by rw [← eg, zsI_no (by omega), zsI_no (by omega)]
  have e3 : ∀ k, k ≠ 0 → k ≠ 11 → h2.2.1 196 k = h.2.1 196 k := fun k w1 w2 => by rw [← eg, zsI_no (by omega), zsI_no (by omega)]
  have h1 : h2.1 = hh_487.1 := by rw [← eg]; exact m.2.1.2.2.2
  have hA : lPA A c h2 := by rw [← eg]; exact (m.pa z.1.1).gd
  have B : cI A ≠ 0 → bgM A s h2 := fun ne => by rw [← eg]; exact (z.bm m ne).gd
  have er : h2.2.2.2.1 = h.2.2.2.1 := by rw [← eg]; rfl
  have q15 : h2.2.2.2.1 196 15 = some 199 := by rw [er]; exact m.r15
  have q17 : h2.2.2.2.1 196 17 = some 201 := by rw [er]; exact m.mw.2.1
  have z196 : zsh h2 196 = some (12, 39) := zsh_by h1 (by decide +kernel)
  have z199 : zsh h2 199 = some (14, 363) := zsh_by h1 (by decide +kernel)
  have z201 : zsh h2 201 = some (14, 76) := zsh_by h1 (by decide +kernel)
  have M : nMo A s 201 0 h2 := (z.lm m).1.1.fr (fun k => e2 _ _ (by decide))
  have hT := z.1.2.1
  have hB := z.1.2.2
  have hI := z.1.1.1
  have hN := z.2.1.1
  have k0 : (0 : Int32).toInt = 0 := by decide
  obtain ⟨b1, b2, b3, b4, b5⟩ := hI.2.2.1
  show zPn N none d mX12_arrival (0, [(0, .inr (.inr (some 196))), (1, .inl x), (2, .inl f), (3, .inl o), (4, .inl y)], [], h) _
  refine pa_aload_n (pc' := 1) dX12_arrival_0 rfl rfl ?_
  refine pa_callv (pc' := 4) (vs := []) (rest := []) dX12_arrival_1 ml_12_167 (by decide) rfl rfl rfl (fun d' _ => (m_good s196)) (fun v h3 hq => ?_)
  obtain ⟨ev, eh⟩ := hq
  subst ev
  show zPn N none d mX12_arrival (4, _, [], h3) _
  rw [eg] at eh
  subst eh
  refine pa_aload_n (pc' := 5) dX12_arrival_4 rfl rfl ?_
  refine pa_iload_n (pc' := 6) dX12_arrival_5 rfl rfl ?_
  refine pa_callv (pc' := 9) (vs := [.inl x]) (rest := []) dX12_arrival_6 ml_12_268 (by decide) rfl rfl rfl (fun d' _ => (M_isWhale hA q15 h1)) (fun v g9 hq => ?_)
  obtain ⟨ev, eh⟩ := hq
  subst ev
  rw [eh]
  show zPn N none d mX12_arrival (9, _, [.inl (if 0 ≤ (x).toInt ∧ (x).toInt < (cH A:Int) then 1 else 0)], h3) _
  by_cases hx : 0 ≤ x.toInt ∧ x.toInt < (cH A : Int)
  case neg =>
    rw [if_neg hx]
    refine pa_if_t (pc' := 28) dX12_arrival_9 (by decide) (by decide) ?_
    refine pa_aload_n (pc' := 29) dX12_arrival_28 rfl rfl ?_
    refine pa_iconst (v := nI 1) (pc' := 30) dX12_arrival_29 (by decide) rfl ?_
    refine pa_callv (pc' := 33) (vs := [.inl (nI 1)]) (rest := []) dX12_arrival_30 ml_12_170 (by decide) rfl rfl rfl (fun d' _ => (m_no z196)) (fun v g hq => ?_)
    obtain ⟨ev, eh⟩ := hq
    subst ev
    show zPn N none d mX12_arrival (33, _, [.inl ((-1))], g) _
    refine pa_iret dX12_arrival_33 rfl rfl ?_
    unfold arivV
    rw [if_neg (fun q => hx q.1.1)]
  rw [if_pos hx]
  refine pa_if_f (pc' := 12) dX12_arrival_9 (by decide) (by decide) rfl ?_
  refine pa_aload_n (pc' := 13) dX12_arrival_12 rfl rfl ?_
  refine pa_iload_n (pc' := 14) dX12_arrival_13 rfl rfl ?_
  refine pa_callv (pc' := 17) (vs := [.inl f]) (rest := []) dX12_arrival_14 ml_12_277 (by decide) rfl rfl rfl (fun d' _ => (N_isI12 hA q15 h1)) (fun v g9 hq => ?_)
  obtain ⟨ev, eh⟩ := hq
  subst ev
  rw [eh]
  show zPn N none d mX12_arrival (17, _, [.inl (if 0 ≤ (f).toInt ∧ (f).toInt < (cI A:Int) then 1 else 0)], h3) _
  by_cases hf : 0 ≤ f.toInt ∧ f.toInt < (cI A : Int)
  case neg =>
    rw [if_neg hf]
    refine pa_if_t (pc' := 28) dX12_arrival_17 (by decide) (by decide) ?_
    refine pa_aload_n (pc' := 29) dX12_arrival_28 rfl rfl ?_
    refine pa_iconst (v := nI 1) (pc' := 30) dX12_arrival_29 (by decide) rfl ?_
    refine pa_callv (pc' := 33) (vs := [.inl (nI 1)]) (rest := []) dX12_arrival_30 ml_12_170 (by decide) rfl rfl rfl (fun d' _ => (m_no z196)) (fun v g hq => ?_)
    obtain ⟨ev, eh⟩ := hq
    subst ev
    show zPn N none d mX12_arrival (33, _, [.inl ((-1))], g) _
    refine pa_iret dX12_arrival_33 rfl rfl ?_
    unfold arivV
    rw [if_neg (fun q => hf q.1.2.1)]
  rw [if_pos hf]
  refine pa_if_f (pc' := 20) dX12_arrival_17 (by decide) (by decide) rfl ?_
  refine pa_aload_n (pc' := 21) dX12_arrival_20 rfl rfl ?_
  refine pa_iload_n (pc' := 22) dX12_arrival_21 rfl rfl ?_
  refine pa_callv (pc' := 25) (vs := [.inl o]) (rest := []) dX12_arrival_22 ml_12_277 (by decide) rfl rfl rfl (fun d' _ => (N_isI12 hA q15 h1)) (fun v g9 hq => ?_)
  obtain ⟨ev, eh⟩ := hq
  subst ev
  rw [eh]
  show zPn N none d mX12_arrival (25, _, [.inl (if 0 ≤ (o).toInt ∧ (o).toInt < (cI A:Int) then 1 else 0)], h3) _
  by_cases ho : 0 ≤ o.toInt ∧ o.toInt < (cI A : Int)
  case neg =>
    rw [if_neg ho]
    refine pa_if_f (pc' := 28) dX12_arrival_25 (by decide) (by decide) rfl ?_
    refine pa_aload_n (pc' := 29) dX12_arrival_28 rfl rfl ?_
    refine pa_iconst (v := nI 1) (pc' := 30) dX12_arrival_29 (by decide) rfl ?_
    refine pa_callv (pc' := 33) (vs := [.inl (nI 1)]) (rest := []) dX12_arrival_30 ml_12_170 (by decide) rfl rfl rfl (fun d' _ => (m_no z196)) (fun v g hq => ?_)
    obtain ⟨ev, eh⟩ := hq
    subst ev
    show zPn N none d mX12_arrival (33, _, [.inl ((-1))], g) _
    refine pa_iret dX12_arrival_33 rfl rfl ?_
    unfold arivV
    rw [if_neg (fun q => ho q.1.2.2)]
  rw [if_pos ho]
  refine pa_if_t (pc' := 34) dX12_arrival_25 (by decide) (by decide) ?_
  refine pa_iload (pc' := 36) dX12_arrival_34 rfl rfl ?_
  refine pa_iconst (v := 0) (pc' := 37) dX12_arrival_36 (by decide) rfl ?_
  refine pa_sipush (v := 9999) (pc' := 40) dX12_arrival_37 (by decide) rfl ?_
  refine pa_calls (pc' := 43) (kd := 1) (vs := [.inl y, .inl 0, .inl 9999]) (rest := []) dX12_arrival_40 ml_12_149 (.inl rfl) rfl rfl rfl (fun d' _ => in_v) (fun v g9 hq => ?_)
  obtain ⟨ev, eh⟩ := hq
  subst ev
  rw [eh]
  show zPn N none d mX12_arrival (43, _, [.inl (if ((0 : Int32)).toInt ≤ (y).toInt ∧ (y).toInt ≤ ((9999 : Int32)).toInt then 1 else 0)], h3) _
  rw [k0, show (9999 : Int32).toInt = 9999 by decide]
  by_cases hy : 0 ≤ y.toInt ∧ y.toInt ≤ 9999
  case neg =>
    rw [if_neg hy]
    refine pa_if_t (pc' := 63) dX12_arrival_43 (by decide) (by decide) ?_
    refine pa_aload_n (pc' := 64) dX12_arrival_63 rfl rfl ?_
    refine pa_iconst (v := nI 2) (pc' := 65) dX12_arrival_64 (by decide) rfl ?_
    refine pa_callv (pc' := 68) (vs := [.inl (nI 2)]) (rest := []) dX12_arrival_65 ml_12_170 (by decide) rfl rfl rfl (fun d' _ => (m_no z196)) (fun v g hq => ?_)
    obtain ⟨ev, eh⟩ := hq
    subst ev
    show zPn N none d mX12_arrival (68, _, [.inl ((-1))], g) _
    refine pa_iret dX12_arrival_68 rfl rfl ?_
    unfold arivV
    rw [if_neg (fun q => hy q.2)]
  rw [if_pos hy]
  obtain ⟨w, rfl, hw, ew⟩ := nI_ob hx.1 hx.2
  obtain ⟨fm, rfl, hfm, ef⟩ := nI_ob hf.1 hf.2
  obtain ⟨to, rfl, hto, eo⟩ := nI_ob ho.1 ho.2
  obtain ⟨n, rfl, hn, en⟩ := nI_ob (n := 10000) hy.1 (by omega)
  have B := B (hA.hasH hw)
  refine pa_if_f (pc' := 46) dX12_arrival_43 (by decide) (by decide) rfl ?_
  refine pa_aload_n (pc' := 47) dX12_arrival_46 rfl rfl ?_
  refine pa_aload_n (pc' := 48) dX12_arrival_47 rfl rfl ?_
  refine pa_iload_n (pc' := 49) dX12_arrival_48 rfl rfl ?_
  refine pa_iconst (v := nI 0) (pc' := 50) dX12_arrival_49 (by decide) rfl ?_
  refine pa_callv (pc' := 53) (vs := [.inl (nI w), .inl (nI 0)]) (rest := [.inr (.inr (some 196))]) dX12_arrival_50 ml_12_271 (by decide) rfl rfl rfl (fun d' _ => (M_ofWhale (j := 0) B hw (by decide))) (fun v g9 hq => ?_)
  obtain ⟨ev, eh⟩ := hq
  subst ev
  rw [eh]
  show zPn N none d mX12_arrival (53, _, [.inl (kdA A w), .inr (.inr (some 196))], h3) _
  refine pa_iload_n (pc' := 54) dX12_arrival_53 rfl rfl ?_
  refine pa_iload_n (pc' := 55) dX12_arrival_54 rfl rfl ?_
  refine pa_iload (pc' := 57) dX12_arrival_55 rfl rfl ?_
  refine pa_callv (pc' := 60) (vs := [.inl (kdA A w), .inl (nI fm), .inl (nI to), .inl (nI n)]) (rest := []) dX12_arrival_57 ml_12_352 (by decide) rfl rfl rfl (fun d' _ => (M_arr B hfm hto (by omega))) (fun v g9 hq => ?_)
  obtain ⟨ev, eh⟩ := hq
  subst ev
  show zPn N none d mX12_arrival (60, _, [.inl (arV (dyD A (kdA A w) s.2.1 fm n) to)], g9) _
  refine pa_goto (pc' := 68) dX12_arrival_60 (by decide) ?_
  refine pa_iret dX12_arrival_68 rfl rfl ?_
  unfold arivV
  rw [if_pos ⟨⟨hx, hf, ho⟩, hy⟩, ew, ef, eo, en]
theorem N_brings11 (z : lZ A c s H J h) (hi : lInv t h) : zPa d mX11_brings [.inr (.inr (some 0)), .inl x, .inl y] h (fun v _ => v = some (.inl (brgV A s x y))) := by
  intro N
  have h1 := hi.2.2.2.2.1
  have hA := z.1.1
  have hT := z.1.2.1
  have hB := z.1.2.2
  have hI := hA.1
  have hN := z.2.1.1
  have K := hA.2.2.2.1
  have hc2 : c = 2 ∨ c = 42 := hA.2.1
  obtain ⟨b1, b2, b3, b4, b5⟩ := hI.2.2.1
  have s0 : zsh h 0 = some (11, 16) := zsh_by h1 (by decide +kernel)
  obtain ⟨sc, sc1, sc2, sc4, sc5, scw, scb⟩ := cSh hA.2.1 h1
  obtain ⟨c9, c12, c13, cw, cb⟩ := cRf_of hi.1 hA.2.1
  have S := hi.nw
  obtain ⟨⟨s86, s87, s88, s89, s90, s91⟩, r87, r88, r89, r90, r91⟩ := S.o86
  have r3 := hA.2.2.1
  have r6 := S.2.1
  obtain ⟨n1, n2, n3, n4⟩ := z.2.2.1.1
  show zPn N none d mX11_brings (0, [(0, .inr (.inr (some 0))), (1, .inl x), (2, .inl y)], [], h) _
  refine pa_aload_n (pc' := 1) dX11_brings_0 rfl rfl ?_
  refine pa_iload_n (pc' := 2) dX11_brings_1 rfl rfl ?_
  refine pa_callv (pc' := 5) (vs := [.inl x]) (rest := []) dX11_brings_2 ml_11_121 (by decide) rfl rfl rfl (fun d' _ => (N_isWhale hA h1)) (fun v g9 hq => ?_)
  obtain ⟨ev, eh⟩ := hq
  subst ev
  rw [eh]
  show zPn N none d mX11_brings (5, _, [.inl (if 0 ≤ (x).toInt ∧ (x).toInt < (cH A:Int) then 1 else 0)], h) _
  by_cases hx : 0 ≤ x.toInt ∧ x.toInt < (cH A : Int)
  case neg =>
    rw [if_neg hx]
    refine pa_if_t (pc' := 32) dX11_brings_5 (by decide) (by decide) ?_
    refine pa_aload_n (pc' := 33) dX11_brings_32 rfl rfl ?_
    refine pa_iconst (v := nI 1) (pc' := 34) dX11_brings_33 (by decide) rfl ?_
    refine pa_callv (pc' := 37) (vs := [.inl (nI 1)]) (rest := []) dX11_brings_34 ml_11_98 (by decide) rfl rfl rfl (fun d' _ => (c_ref s0)) (fun v g hq => ?_)
    obtain ⟨ev, eh⟩ := hq
    subst ev
    show zPn N none d mX11_brings (37, _, [.inl ((-1))], g) _
    refine pa_iret dX11_brings_37 rfl rfl ?_
    unfold brgV
    rw [if_neg (fun q => hx q.1)]
  rw [if_pos hx]
  refine pa_if_f (pc' := 8) dX11_brings_5 (by decide) (by decide) rfl ?_
  refine pa_aload_n (pc' := 9) dX11_brings_8 rfl rfl ?_
  refine pa_iload_n (pc' := 10) dX11_brings_9 rfl rfl ?_
  refine pa_callv (pc' := 13) (vs := [.inl y]) (rest := []) dX11_brings_10 ml_11_147 (by decide) rfl rfl rfl (fun d' _ => (N_isBox hA h1)) (fun v g9 hq => ?_)
  obtain ⟨ev, eh⟩ := hq
  subst ev
  rw [eh]
  show zPn N none d mX11_brings (13, _, [.inl (if 0 ≤ (y).toInt ∧ (y).toInt < (cB A:Int) then 1 else 0)], h) _
  by_cases hy : 0 ≤ y.toInt ∧ y.toInt < (cB A : Int)
  case neg =>
    rw [if_neg hy]
    refine pa_if_t (pc' := 32) dX11_brings_13 (by decide) (by decide) ?_
    refine pa_aload_n (pc' := 33) dX11_brings_32 rfl rfl ?_
    refine pa_iconst (v := nI 1) (pc' := 34) dX11_brings_33 (by decide) rfl ?_
    refine pa_callv (pc' := 37) (vs := [.inl (nI 1)]) (rest := []) dX11_brings_34 ml_11_98 (by decide) rfl rfl rfl (fun d' _ => (c_ref s0)) (fun v g hq => ?_)
    obtain ⟨ev, eh⟩ := hq
    subst ev
    show zPn N none d mX11_brings (37, _, [.inl ((-1))], g) _
    refine pa_iret dX11_brings_37 rfl rfl ?_
    unfold brgV
    rw [if_neg (fun q => hy q.2)]
  rw [if_pos hy]
  obtain ⟨w, rfl, hw, ew⟩ := nI_ob hx.1 hx.2
  obtain ⟨b, rfl, hb, eb⟩ := nI_ob hy.1 hy.2
  have B := z.bc hi (hA.has hb)
  have r8 := hi.r8
  refine pa_if_f (pc' := 16) dX11_brings_13 (by decide) (by decide) rfl ?_
  refine pa_aload_n (pc' := 17) dX11_brings_16 rfl rfl ?_
  refine pa_aload_n (pc' := 18) dX11_brings_17 rfl rfl ?_
  refine pa_getR (pc' := 21) (n := 16) (r := 94) dX11_brings_18 fl_11_60 s0 (by decide) r8 rfl ?_
  refine pa_iload_n (pc' := 22) dX11_brings_21 rfl rfl ?_
  refine pa_iload_n (pc' := 23) dX11_brings_22 rfl rfl ?_
  refine pa_callv (pc' := 26) (vs := [.inl (nI w), .inl (nI b)]) (rest := [.inr (.inr (some 0))]) dX11_brings_23 ml_11_283 (by decide) rfl rfl rfl (fun d' _ => (N_brings B hw hb)) (fun v g hq => ?_)
  obtain ⟨ev, eh⟩ := hq
  subst ev
  show zPn N none d mX11_brings (26, _, [.inl (brR A w (brV A s w b)), .inr (.inr (some 0))], g) _
  have t0 : zsh g 0 = some (11, 16) := zsh_by (eh.1.1.trans h1) (by decide +kernel)
  refine pa_callv (pc' := 29) (vs := [.inl (brR A w (brV A s w b))]) (rest := []) dX11_brings_26 ml_11_112 (by decide) rfl rfl rfl (fun d' _ => (c_gra t0)) (fun v g9 hq => ?_)
  obtain ⟨ev, eh⟩ := hq
  subst ev
  show zPn N none d mX11_brings (29, _, [.inl ((brR A w (brV A s w b)))], g9) _
  refine pa_goto (pc' := 37) dX11_brings_29 (by decide) ?_
  refine pa_iret dX11_brings_37 rfl rfl ?_
  unfold brgV
  rw [if_pos ⟨hx, hy⟩, ew, eb]
theorem N_brings12 (z : lZ A c s H J g) (m : lMid kk im t g h) : zPa d mX12_brings [.inr (.inr (some 196)), .inl x, .inl y] h (fun v _ => v = some (.inl (brgV A s x y))) := by
  intro N
  have s196 : zsh h 196 = some (12, 39) := zsh_by m.2.1.2.2.2 (by decide +kernel)
  generalize eg : zsI (zsI h 196 0 0) 196 11 0 = h2
  have e2 : ∀ a k, a ≠ 196 → h2.2.1 a k = h.2.1 a k := fun a k ha => by rw [← eg, zsI_no (by omega), zsI_no (by omega)]
  have e3 : ∀ k, k ≠ 0 → k ≠ 11 → h2.2.1 196 k = h.2.1 196 k := fun k w1 w2 => by rw [← eg, zsI_no (by omega), zsI_no (by omega)]
  have h1 : h2.1 = hh_487.1 := by rw [← eg]; exact m.2.1.2.2.2
  have hA : lPA A c h2 := by rw [← eg]; exact (m.pa z.1.1).gd
  have B : cI A ≠ 0 → bgM A s h2 := fun ne => by rw [← eg]; exact (z.bm m ne).gd
  have er : h2.2.2.2.1 = h.2.2.2.1 := by rw [← eg]; rfl
  have q15 : h2.2.2.2.1 196 15 = some 199 := by rw [er]; exact m.r15
  have q17 : h2.2.2.2.1 196 17 = some 201 := by rw [er]; exact m.mw.2.1
  have z196 : zsh h2 196 = some (12, 39) := zsh_by h1 (by decide +kernel)
  have z199 : zsh h2 199 = some (14, 363) := zsh_by h1 (by decide +kernel)
  have z201 : zsh h2 201 = some (14, 76) := zsh_by h1 (by decide +kernel)
  have M : nMo A s 201 0 h2 := (z.lm m).1.1.fr (fun k => e2 _ _ (by decide))
  have hT := z.1.2.1
  have hB := z.1.2.2
  have hI := z.1.1.1
  have hN := z.2.1.1
  have k0 : (0 : Int32).toInt = 0 := by decide
  obtain ⟨b1, b2, b3, b4, b5⟩ := hI.2.2.1
  show zPn N none d mX12_brings (0, [(0, .inr (.inr (some 196))), (1, .inl x), (2, .inl y)], [], h) _
  refine pa_aload_n (pc' := 1) dX12_brings_0 rfl rfl ?_
  refine pa_callv (pc' := 4) (vs := []) (rest := []) dX12_brings_1 ml_12_167 (by decide) rfl rfl rfl (fun d' _ => (m_good s196)) (fun v h3 hq => ?_)
  obtain ⟨ev, eh⟩ := hq
  subst ev
  show zPn N none d mX12_brings (4, _, [], h3) _
  rw [eg] at eh
  subst eh
  refine pa_aload_n (pc' := 5) dX12_brings_4 rfl rfl ?_
  refine pa_iload_n (pc' := 6) dX12_brings_5 rfl rfl ?_
  refine pa_callv (pc' := 9) (vs := [.inl x]) (rest := []) dX12_brings_6 ml_12_268 (by decide) rfl rfl rfl (fun d' _ => (M_isWhale hA q15 h1)) (fun v g9 hq => ?_)
  obtain ⟨ev, eh⟩ := hq
  subst ev
  rw [eh]
  show zPn N none d mX12_brings (9, _, [.inl (if 0 ≤ (x).toInt ∧ (x).toInt < (cH A:Int) then 1 else 0)], h3) _
  by_cases hx : 0 ≤ x.toInt ∧ x.toInt < (cH A : Int)
  case neg =>
    rw [if_neg hx]
    refine pa_if_t (pc' := 29) dX12_brings_9 (by decide) (by decide) ?_
    refine pa_aload_n (pc' := 30) dX12_brings_29 rfl rfl ?_
    refine pa_iconst (v := nI 1) (pc' := 31) dX12_brings_30 (by decide) rfl ?_
    refine pa_callv (pc' := 34) (vs := [.inl (nI 1)]) (rest := []) dX12_brings_31 ml_12_170 (by decide) rfl rfl rfl (fun d' _ => (m_no z196)) (fun v g hq => ?_)
    obtain ⟨ev, eh⟩ := hq
    subst ev
    show zPn N none d mX12_brings (34, _, [.inl ((-1))], g) _
    refine pa_iret dX12_brings_34 rfl rfl ?_
    unfold brgV
    rw [if_neg (fun q => hx q.1)]
  rw [if_pos hx]
  refine pa_if_f (pc' := 12) dX12_brings_9 (by decide) (by decide) rfl ?_
  refine pa_aload_n (pc' := 13) dX12_brings_12 rfl rfl ?_
  refine pa_iload_n (pc' := 14) dX12_brings_13 rfl rfl ?_
  refine pa_callv (pc' := 17) (vs := [.inl y]) (rest := []) dX12_brings_14 ml_12_274 (by decide) rfl rfl rfl (fun d' _ => (M_isBox hA q15 h1)) (fun v g9 hq => ?_)
  obtain ⟨ev, eh⟩ := hq
  subst ev
  rw [eh]
  show zPn N none d mX12_brings (17, _, [.inl (if 0 ≤ (y).toInt ∧ (y).toInt < (cB A:Int) then 1 else 0)], h3) _
  by_cases hy : 0 ≤ y.toInt ∧ y.toInt < (cB A : Int)
  case neg =>
    rw [if_neg hy]
    refine pa_if_t (pc' := 29) dX12_brings_17 (by decide) (by decide) ?_
    refine pa_aload_n (pc' := 30) dX12_brings_29 rfl rfl ?_
    refine pa_iconst (v := nI 1) (pc' := 31) dX12_brings_30 (by decide) rfl ?_
    refine pa_callv (pc' := 34) (vs := [.inl (nI 1)]) (rest := []) dX12_brings_31 ml_12_170 (by decide) rfl rfl rfl (fun d' _ => (m_no z196)) (fun v g hq => ?_)
    obtain ⟨ev, eh⟩ := hq
    subst ev
    show zPn N none d mX12_brings (34, _, [.inl ((-1))], g) _
    refine pa_iret dX12_brings_34 rfl rfl ?_
    unfold brgV
    rw [if_neg (fun q => hy q.2)]
  rw [if_pos hy]
  obtain ⟨w, rfl, hw, ew⟩ := nI_ob hx.1 hx.2
  obtain ⟨b, rfl, hb, eb⟩ := nI_ob hy.1 hy.2
  have B := B (hA.has hb)
  refine pa_if_f (pc' := 20) dX12_brings_17 (by decide) (by decide) rfl ?_
  refine pa_aload_n (pc' := 21) dX12_brings_20 rfl rfl ?_
  refine pa_iload_n (pc' := 22) dX12_brings_21 rfl rfl ?_
  refine pa_iload_n (pc' := 23) dX12_brings_22 rfl rfl ?_
  refine pa_callv (pc' := 26) (vs := [.inl (nI w), .inl (nI b)]) (rest := []) dX12_brings_23 ml_12_367 (by decide) rfl rfl rfl (fun d' _ => (M_bringsOf B hw hb)) (fun v g9 hq => ?_)
  obtain ⟨ev, eh⟩ := hq
  subst ev
  show zPn N none d mX12_brings (26, _, [.inl (brR A w (brV A s w b))], g9) _
  refine pa_goto (pc' := 34) dX12_brings_26 (by decide) ?_
  refine pa_iret dX12_brings_34 rfl rfl ?_
  unfold brgV
  rw [if_pos ⟨hx, hy⟩, ew, eb]
end AN4
/-! answers: soonest, surest, by -/
def soV (A : pA) (s : nS) (x : Int32) : Int32 := heV A s x (fun b => qV (soF A s b (cH A)))
def buV : Option Nat → Int32
  | some q => nI q
  | none => -2
def suV2 (A : pA) (s : nS) (x : Int32) : Int32 := heV A s x (fun b => buV (suF A s b none (cH A)))
section AN5
variable {t d N c w b : Nat} {h g : zH} {A : pA} {s : nS} {H J : List nS} {x y f o : Int32} {kk : Bool} {im : Int32} {but : Option Nat}
theorem n2ne {n : Nat} (h : n ≤ 2147483647) : nI n ≠ -2 := fun q => by
  have := congrArg Int32.toInt q
  rw [nI_toInt (by omega), show (-2 : Int32).toInt = -2 by decide] at this
  omega
theorem n2ge {n : Nat} (h : n ≤ 2147483647) : ¬ (nI n).toInt < 0 := by
  rw [nI_toInt (by omega)]
  omega
/-- what the sea's calls read of the post, behind heaps that who brings a box leaves -/
theorem bgC.se (B : bgC A c s h) (h94 : h.2.2.2.1 94 0 = some c) (hw : cH A ≤ 5) (K : rcC A c h) : zsh h 94 = some (6, 7) ∧ zsh h c = some (4, 15) ∧ h.2.1 c 6 = nI (cH A) := ⟨zsh_by B.2.1.1 (by decide +kernel), B.sh.1, K.2.2.2.1⟩
theorem rcC.f3 (hI : pI A) (hc : cc2 c) (K : rcC A c h) (f : gF3 h g) : rcC A c g := rcC.frB hI (fun a j h1 h2 => f.2.2 a j (by have := hc.rg h1 h2; omega) (by have := hc.rg h1 h2; omega) (by have := hc.rg h1 h2; omega)) K
theorem N_soonest (B0 : bgC A c s h) (K0 : rcC A c h) (hb : b < cB A) : zPa d mX6_soonestBringer [.inr (.inr (some 94)), .inl (nI b)] h (fun v g => v = some (.inl (qV (soF A s b (cH A)))) ∧ gF3 h g) := by
  intro N
  obtain ⟨hI, hT, hB, hN⟩ := B0.1
  obtain ⟨b1, b2, b3, b4, b5⟩ := hI.2.2.1
  have hc := B0.2.1.2.1
  have lp : ∀ (N w : Nat) (ls : zL) (g : zH), w ≤ cH A → gF3 h g → zget ls 0 = some (.inr (.inr (some 94))) → zget ls 1 = some (.inl (nI b)) → zget ls 2 = some (.inl (qV (soF A s b w))) → zget ls 3 = some (.inl (nI (rV (soF A s b w)))) → zget ls 4 = some (.inl (nI w)) → zPn N none d mX6_soonestBringer (8, ls, [], g) (fun v g => v = some (.inl (qV (soF A s b (cH A)))) ∧ gF3 h g) := by
    intro N
    induction N with
    | zero => intros; exact zPn.zero
    | succ N ih =>
      intro w ls g hw F hl0 hl1 hl2 hl3 hl4
      have B := B0.fr F
      have K := K0.f3 hI hc F
      have s94 : zsh g 94 = some (6, 7) := zsh_by B.2.1.1 (by decide +kernel)
      obtain ⟨sc, -⟩ := B.sh
      have r0 := B.2.1.2.2.2.1.1
      have e6 := K.2.2.2.1
      refine pa_iload (pc' := 10) dX6_soonestBringer_8 hl4 rfl ?_
      refine pa_aload_n (pc' := 11) dX6_soonestBringer_10 hl0 rfl ?_
      refine pa_getR (pc' := 14) (n := 7) (r := c) dX6_soonestBringer_11 fl_6_25 s94 (by decide) r0 rfl ?_
      refine pa_getI (pc' := 17) (n := 15) (v := nI (cH A)) dX6_soonestBringer_14 fl_6_152 sc (by decide) e6 rfl ?_
      refine pa_icmp (pc' := 60) (pc2 := 20) dX6_soonestBringer_17 (by decide) rfl (fun z => ?_) (fun z => ?_)
      · have z := zi_nlt (zk_ge_lt z)
        rw [nI_toInt (by omega), nI_toInt (by omega)] at z
        have ew : w = cH A := by omega
        subst ew
        refine pa_iload_n (pc' := 61) dX6_soonestBringer_60 hl2 rfl ?_
        refine pa_iret dX6_soonestBringer_61 rfl rfl ?_
        exact ⟨rfl, F⟩
      · have z := zi_lt (zk_ge_lt z)
        rw [nI_toInt (by omega), nI_toInt (by omega)] at z
        have hw : w < cH A := by omega
        have nx : ∀ (g' : zH) (r : Option (Nat × Nat)), soF A s b (w + 1) = r → gF3 h g' → ∀ ls', zget ls' 0 = some (.inr (.inr (some 94))) → zget ls' 1 = some (.inl (nI b)) → zget ls' 2 = some (.inl (qV r)) → zget ls' 3 = some (.inl (nI (rV r))) → zget ls' 4 = some (.inl (nI w)) → zPn (N + 1) none d mX6_soonestBringer (54, ls', [], g') (fun v g => v = some (.inl (qV (soF A s b (cH A)))) ∧ gF3 h g) := fun g' r er F' ls' l0 l1 l2 l3 l4 => by
          refine pa_iinc (pc' := 57) (v := nI (w + 1)) dX6_soonestBringer_54 l4 (by decide) (nI_add w 1) rfl rfl ?_
          refine pa_gotos (pc' := 8) dX6_soonestBringer_57 (by decide) ?_
          subst er
          exact ih (w + 1) _ g' (by omega) F' (zget_s1 l0 (by decide) (by simp [zcat])) (zget_s1 l1 (by decide) (by simp [zcat])) (zget_s1 l2 (by decide) (by simp [zcat])) (zget_s1 l3 (by decide) (by simp [zcat])) zget_s1e
        refine pa_aload_n (pc' := 21) dX6_soonestBringer_20 hl0 rfl ?_
        refine pa_iload (pc' := 23) dX6_soonestBringer_21 hl4 rfl ?_
        refine pa_iload_n (pc' := 24) dX6_soonestBringer_23 hl1 rfl ?_
        refine pa_callv (pc' := 27) (vs := [.inl (nI w), .inl (nI b)]) (rest := []) dX6_soonestBringer_24 ml_6_155 (by decide) rfl rfl rfl (fun d' _ => (N_brings B hw hb)) (fun v g2 hq => ?_)
        obtain ⟨ev, eh⟩ := hq
        subst ev
        show zPn (N + 1) none d mX6_soonestBringer (27, _, [.inl (brR A w (brV A s w b))], g2) _
        have F2 := F.tr eh.1
        rw [brR_bD]
        refine pa_istore (pc' := 29) dX6_soonestBringer_27 (by decide) rfl rfl ?_
        refine pa_iload (pc' := 31) dX6_soonestBringer_29 zget_s1e rfl ?_
        refine pa_bipush (v := (-2)) (pc' := 33) dX6_soonestBringer_31 (by decide) rfl ?_
        cases o : bD A s w b with
        | none =>
          refine pa_icmp_t (pc' := 54) dX6_soonestBringer_33 (show zcond .eq (-2 : Int32) (-2) = true by decide) (by decide) ?_
          refine nx g2 _ ?_ F2 _ (zget_s1 hl0 (by decide) (by simp [zcat])) (zget_s1 hl1 (by decide) (by simp [zcat])) (zget_s1 hl2 (by decide) (by simp [zcat])) (zget_s1 hl3 (by decide) (by simp [zcat])) (zget_s1 hl4 (by decide) (by simp [zcat]))
          show soS A s b w (soF A s b w) = _
          unfold soS
          rw [o]
        | some D =>
          have hD := bD_le hI hB hT hN hw hb o
          rw [show dV (some D) = nI D from rfl]
          refine pa_icmp_f (pc' := 36) dX6_soonestBringer_33 (decide_eq_false (n2ne (by omega))) (by decide) rfl ?_
          refine pa_iload_n (pc' := 37) dX6_soonestBringer_36 (zget_s1 hl2 (by decide) (by simp [zcat])) rfl ?_
          refine pa_bipush (v := (-2)) (pc' := 39) dX6_soonestBringer_37 (by decide) rfl ?_
          cases r : soF A s b w with
          | none =>
            refine pa_icmp_t (pc' := 48) dX6_soonestBringer_39 (show zcond .eq (-2 : Int32) (-2) = true by decide) (by decide) ?_
            refine pa_iload (pc' := 50) dX6_soonestBringer_48 (zget_s1 hl4 (by decide) (by simp [zcat])) rfl ?_
            refine pa_istore_n (pc' := 51) dX6_soonestBringer_50 (by decide) rfl rfl ?_
            refine pa_iload (pc' := 53) dX6_soonestBringer_51 (zget_s1 zget_s1e (by decide) (by simp [zcat])) rfl ?_
            refine pa_istore_n (pc' := 54) dX6_soonestBringer_53 (by decide) rfl rfl ?_
            refine nx g2 (some (w, D)) ?_ F2 _ (zget_s1 (zget_s1 (zget_s1 hl0 (by decide) (by simp [zcat])) (by decide) (by simp [zcat])) (by decide) (by simp [zcat])) (zget_s1 (zget_s1 (zget_s1 hl1 (by decide) (by simp [zcat])) (by decide) (by simp [zcat])) (by decide) (by simp [zcat])) (zget_s1 zget_s1e (by decide) (by simp [zcat])) zget_s1e (zget_s1 (zget_s1 (zget_s1 hl4 (by decide) (by simp [zcat])) (by decide) (by simp [zcat])) (by decide) (by simp [zcat]))
            show soS A s b w (soF A s b w) = _
            unfold soS
            rw [o, r]
          | some q =>
            obtain ⟨q1, q2⟩ := soF_in w q r
            have hq := bD_le hI hB hT hN (show q.1 < cH A by omega) hb q2
            have es : soF A s b (w + 1) = if D < q.2 then some (w, D) else some q := by
              show soS A s b w (soF A s b w) = _
              unfold soS
              rw [o, r]
            rw [r, show rV (some q) = q.2 from rfl] at hl3
            rw [r, show qV (some q) = nI q.1 from rfl] at hl2
            rw [show qV (some q) = nI q.1 from rfl]
            refine pa_icmp_f (pc' := 42) dX6_soonestBringer_39 (decide_eq_false (n2ne (by omega))) (by decide) rfl ?_
            refine pa_iload (pc' := 44) dX6_soonestBringer_42 zget_s1e rfl ?_
            refine pa_iload_n (pc' := 45) dX6_soonestBringer_44 (zget_s1 hl3 (by decide) (by simp [zcat])) rfl ?_
            by_cases zz : D < q.2
            · rw [if_pos zz] at es
              refine pa_icmp_f (pc' := 48) dX6_soonestBringer_45 (zk_lt_ge (b := true) (zj_lt (by rw [nI_toInt (by omega), nI_toInt (by omega)]; omega))) (by decide) rfl ?_
              refine pa_iload (pc' := 50) dX6_soonestBringer_48 (zget_s1 hl4 (by decide) (by simp [zcat])) rfl ?_
              refine pa_istore_n (pc' := 51) dX6_soonestBringer_50 (by decide) rfl rfl ?_
              refine pa_iload (pc' := 53) dX6_soonestBringer_51 (zget_s1 zget_s1e (by decide) (by simp [zcat])) rfl ?_
              refine pa_istore_n (pc' := 54) dX6_soonestBringer_53 (by decide) rfl rfl ?_
              exact nx g2 _ es F2 _ (zget_s1 (zget_s1 (zget_s1 hl0 (by decide) (by simp [zcat])) (by decide) (by simp [zcat])) (by decide) (by simp [zcat])) (zget_s1 (zget_s1 (zget_s1 hl1 (by decide) (by simp [zcat])) (by decide) (by simp [zcat])) (by decide) (by simp [zcat])) (zget_s1 zget_s1e (by decide) (by simp [zcat])) zget_s1e (zget_s1 (zget_s1 (zget_s1 hl4 (by decide) (by simp [zcat])) (by decide) (by simp [zcat])) (by decide) (by simp [zcat]))
            · rw [if_neg zz] at es
              refine pa_icmp_t (pc' := 54) dX6_soonestBringer_45 (zk_lt_ge (b := false) (zj_nlt (by rw [nI_toInt (by omega), nI_toInt (by omega)]; omega))) (by decide) ?_
              exact nx g2 _ es F2 _ (zget_s1 hl0 (by decide) (by simp [zcat])) (zget_s1 hl1 (by decide) (by simp [zcat])) (zget_s1 hl2 (by decide) (by simp [zcat])) (zget_s1 hl3 (by decide) (by simp [zcat])) (zget_s1 hl4 (by decide) (by simp [zcat]))
  show zPn N none d mX6_soonestBringer (0, [(0, .inr (.inr (some 94))), (1, .inl (nI b))], [], h) _
  refine pa_bipush (v := (-2)) (pc' := 2) dX6_soonestBringer_0 (by decide) rfl ?_
  refine pa_istore_n (pc' := 3) dX6_soonestBringer_2 (by decide) rfl rfl ?_
  refine pa_iconst (v := nI 0) (pc' := 4) dX6_soonestBringer_3 (by decide) rfl ?_
  refine pa_istore_n (pc' := 5) dX6_soonestBringer_4 (by decide) rfl rfl ?_
  refine pa_iconst (v := nI 0) (pc' := 6) dX6_soonestBringer_5 (by decide) rfl ?_
  refine pa_istore (pc' := 8) dX6_soonestBringer_6 (by decide) rfl rfl ?_
  exact lp N 0 _ h (Nat.zero_le _) gF3.rf rfl rfl rfl rfl rfl
theorem N_surest (B0 : bgC A c s h) (K0 : rcC A c h) (hb : b < cB A) (hbut : ∀ q, but = some q → q < 5) : zPa d mX6_surestBringer [.inr (.inr (some 94)), .inl (nI b), .inl (buV but)] h (fun v g => v = some (.inl (buV (suF A s b but (cH A)))) ∧ gF3 h g) := by
  intro N
  obtain ⟨hI, hT, hB, hN⟩ := B0.1
  obtain ⟨b1, b2, b3, b4, b5⟩ := hI.2.2.1
  have hc := B0.2.1.2.1
  have hsu : ∀ w : Nat, w < 5 → (buV but = nI w ↔ some w = but) := fun w hw => by
    cases but with
    | none =>
      refine ⟨fun e => absurd e.symm (n2ne (by omega)), fun e => by cases e⟩
    | some q =>
      have := hbut q rfl
      refine ⟨fun e => ?_, fun e => by cases e; rfl⟩
      have : q = w := (nI_eq (by omega) (by omega)).mp e
      rw [this]
  have lp : ∀ (N w : Nat) (ls : zL) (g : zH), w ≤ cH A → gF3 h g → zget ls 0 = some (.inr (.inr (some 94))) → zget ls 1 = some (.inl (nI b)) → zget ls 2 = some (.inl (buV but)) → zget ls 3 = some (.inl (buV (suF A s b but w))) → zget ls 4 = some (.inl (nI w)) → zPn N none d mX6_surestBringer (6, ls, [], g) (fun v g => v = some (.inl (buV (suF A s b but (cH A)))) ∧ gF3 h g) := by
    intro N
    induction N with
    | zero => intros; exact zPn.zero
    | succ N ih =>
      intro w ls g hw F hl0 hl1 hl2 hl3 hl4
      have B := B0.fr F
      have K := K0.f3 hI hc F
      have s94 : zsh g 94 = some (6, 7) := zsh_by B.2.1.1 (by decide +kernel)
      obtain ⟨sc, -, sc4, -, scw, -⟩ := B.sh
      have r0 := B.2.1.2.2.2.1.1
      have e6 := K.2.2.2.1
      have c12 := B.2.2.2.2.1.2.2.2.2.2.1
      have cw := B.2.2.2.2.1.2.2.2.2.2.2.2.1
      have lost : ∀ w, w < cH A → g.2.1 (c + 19 + w) 3 = nI (nu A (110 + 4 * w)) ∧ nu A (110 + 4 * w) ≤ 99 := fun w hw => by
        obtain ⟨-, -, -, q, v⟩ := num_whale hI hB hT hw
        exact ⟨by rw [K.wh hT hI hw (by decide), v 3 (by decide), show 107 + 4 * w + 3 = 110 + 4 * w by omega], q⟩
      refine pa_iload (pc' := 8) dX6_surestBringer_6 hl4 rfl ?_
      refine pa_aload_n (pc' := 9) dX6_surestBringer_8 hl0 rfl ?_
      refine pa_getR (pc' := 12) (n := 7) (r := c) dX6_surestBringer_9 fl_6_25 s94 (by decide) r0 rfl ?_
      refine pa_getI (pc' := 15) (n := 15) (v := nI (cH A)) dX6_surestBringer_12 fl_6_152 sc (by decide) e6 rfl ?_
      refine pa_icmp (pc' := 91) (pc2 := 18) dX6_surestBringer_15 (by decide) rfl (fun z => ?_) (fun z => ?_)
      · have z := zi_nlt (zk_ge_lt z)
        rw [nI_toInt (by omega), nI_toInt (by omega)] at z
        have ew : w = cH A := by omega
        subst ew
        refine pa_iload_n (pc' := 92) dX6_surestBringer_91 hl3 rfl ?_
        refine pa_iret dX6_surestBringer_92 rfl rfl ?_
        exact ⟨rfl, F⟩
      · have z := zi_lt (zk_ge_lt z)
        rw [nI_toInt (by omega), nI_toInt (by omega)] at z
        have hw : w < cH A := by omega
        have nx : ∀ (g' : zH) (r : Option Nat), suF A s b but (w + 1) = r → gF3 h g' → ∀ ls', zget ls' 0 = some (.inr (.inr (some 94))) → zget ls' 1 = some (.inl (nI b)) → zget ls' 2 = some (.inl (buV but)) → zget ls' 3 = some (.inl (buV r)) → zget ls' 4 = some (.inl (nI w)) → zPn (N + 1) none d mX6_surestBringer (85, ls', [], g') (fun v g => v = some (.inl (buV (suF A s b but (cH A)))) ∧ gF3 h g) := fun g' r er F' ls' l0 l1 l2 l3 l4 => by
          refine pa_iinc (pc' := 88) (v := nI (w + 1)) dX6_surestBringer_85 l4 (by decide) (nI_add w 1) rfl rfl ?_
          refine pa_gotos (pc' := 6) dX6_surestBringer_88 (by decide) ?_
          subst er
          exact ih (w + 1) _ g' (by omega) F' (zget_s1 l0 (by decide) (by simp [zcat])) (zget_s1 l1 (by decide) (by simp [zcat])) (zget_s1 l2 (by decide) (by simp [zcat])) (zget_s1 l3 (by decide) (by simp [zcat])) zget_s1e
        have old : suF A s b but (w + 1) = suF A s b but w → ∀ (g' : zH), gF3 h g' → ∀ ls', zget ls' 0 = some (.inr (.inr (some 94))) → zget ls' 1 = some (.inl (nI b)) → zget ls' 2 = some (.inl (buV but)) → zget ls' 3 = some (.inl (buV (suF A s b but w))) → zget ls' 4 = some (.inl (nI w)) → zPn (N + 1) none d mX6_surestBringer (85, ls', [], g') (fun v g => v = some (.inl (buV (suF A s b but (cH A)))) ∧ gF3 h g) := fun e g' F' ls' l0 l1 l2 l3 l4 => nx g' _ e F' ls' l0 l1 l2 l3 l4
        -- from 59 on: 'surer' is known
        have rest : ∀ (su : Bool), (su = true ↔ (match suF A s b but w with | none => True | some q => nu A (110 + 4 * w) < nu A (110 + 4 * q))) → ∀ ls', zget ls' 0 = some (.inr (.inr (some 94))) → zget ls' 1 = some (.inl (nI b)) → zget ls' 2 = some (.inl (buV but)) → zget ls' 3 = some (.inl (buV (suF A s b but w))) → zget ls' 4 = some (.inl (nI w)) → zget ls' 5 = some (.inl (if su = true then 1 else 0)) → zPn (N + 1) none d mX6_surestBringer (59, ls', [], g) (fun v g => v = some (.inl (buV (suF A s b but (cH A)))) ∧ gF3 h g) := fun su hsr ls' l0 l1 l2 l3 l4 l5 => by
          refine pa_iload (pc' := 61) dX6_surestBringer_59 l4 rfl ?_
          refine pa_iload_n (pc' := 62) dX6_surestBringer_61 l2 rfl ?_
          by_cases zb : some w = but
          · refine pa_icmp_t (pc' := 85) dX6_surestBringer_62 (decide_eq_true ((hsu w (by omega)).mpr zb).symm) (by decide) ?_
            refine old ?_ g F ls' l0 l1 l2 l3 l4
            show suS A s b but w (suF A s b but w) = _
            unfold suS
            rw [if_pos zb]
          · refine pa_icmp_f (pc' := 65) dX6_surestBringer_62 (decide_eq_false (fun e => zb ((hsu w (by omega)).mp e.symm))) (by decide) rfl ?_
            refine pa_iload (pc' := 67) dX6_surestBringer_65 l5 rfl ?_
            cases su with
            | false =>
              refine pa_if_t (pc' := 85) dX6_surestBringer_67 (show zcond .eq (0 : Int32) 0 = true by decide) (by decide) ?_
              refine old ?_ g F ls' l0 l1 l2 l3 l4
              have hns : ¬ (match suF A s b but w with | none => True | some q => nu A (110 + 4 * w) < nu A (110 + 4 * q)) := fun e => by
                have := hsr.mpr e
                cases this
              show suS A s b but w (suF A s b but w) = _
              unfold suS
              rw [if_neg zb]
              cases bD A s w b with
              | none => rfl
              | some D =>
                dsimp only
                cases r : suF A s b but w with
                | none =>
                  rw [r] at hns
                  exact absurd trivial hns
                | some q =>
                  rw [r] at hns
                  dsimp only at hns ⊢
                  rw [if_neg hns]
            | true =>
              refine pa_if_f (pc' := 70) dX6_surestBringer_67 (show zcond .eq (1 : Int32) 0 = false by decide) (by decide) rfl ?_
              refine pa_aload_n (pc' := 71) dX6_surestBringer_70 l0 rfl ?_
              refine pa_iload (pc' := 73) dX6_surestBringer_71 l4 rfl ?_
              refine pa_iload_n (pc' := 74) dX6_surestBringer_73 l1 rfl ?_
              refine pa_callv (pc' := 77) (vs := [.inl (nI w), .inl (nI b)]) (rest := []) dX6_surestBringer_74 ml_6_155 (by decide) rfl rfl rfl (fun d' _ => (N_brings B hw hb)) (fun v g2 hq => ?_)
              obtain ⟨ev, eh⟩ := hq
              subst ev
              show zPn (N + 1) none d mX6_surestBringer (77, _, [.inl (brR A w (brV A s w b))], g2) _
              have F2 := F.tr eh.1
              rw [brR_bD]
              refine pa_bipush (v := (-2)) (pc' := 79) dX6_surestBringer_77 (by decide) rfl ?_
              cases o : bD A s w b with
              | none =>
                refine pa_icmp_t (pc' := 85) dX6_surestBringer_79 (show zcond .eq (-2 : Int32) (-2) = true by decide) (by decide) ?_
                refine old ?_ g2 F2 _ l0 l1 l2 l3 l4
                show suS A s b but w (suF A s b but w) = _
                unfold suS
                rw [if_neg zb, o]
              | some D =>
                have hD := bD_le hI hB hT hN hw hb o
                refine pa_icmp_f (pc' := 82) dX6_surestBringer_79 (decide_eq_false (n2ne (by omega))) (by decide) rfl ?_
                refine pa_iload (pc' := 84) dX6_surestBringer_82 l4 rfl ?_
                refine pa_istore_n (pc' := 85) dX6_surestBringer_84 (by decide) rfl rfl ?_
                refine nx g2 (some w) ?_ F2 _ (zget_s1 l0 (by decide) (by simp [zcat])) (zget_s1 l1 (by decide) (by simp [zcat])) (zget_s1 l2 (by decide) (by simp [zcat])) zget_s1e (zget_s1 l4 (by decide) (by simp [zcat]))
                have hs := hsr.mp rfl
                show suS A s b but w (suF A s b but w) = _
                unfold suS
                rw [if_neg zb, o]
                dsimp only
                cases r : suF A s b but w with
                | none => rfl
                | some q =>
                  rw [r] at hs
                  dsimp only at hs ⊢
                  rw [if_pos hs]
        refine pa_iload_n (pc' := 19) dX6_surestBringer_18 hl3 rfl ?_
        refine pa_bipush (v := (-2)) (pc' := 21) dX6_surestBringer_19 (by decide) rfl ?_
        cases r : suF A s b but w with
        | none =>
          refine pa_icmp_t (pc' := 52) dX6_surestBringer_21 (show zcond .eq (-2 : Int32) (-2) = true by decide) (by decide) ?_
          refine pa_iconst (v := 1) (pc' := 53) dX6_surestBringer_52 (by decide) rfl ?_
          refine pa_goto (pc' := 57) dX6_surestBringer_53 (by decide) ?_
          refine pa_istore (pc' := 59) dX6_surestBringer_57 (by decide) rfl rfl ?_
          exact rest true (by rw [r]; exact ⟨fun _ => trivial, fun _ => rfl⟩) _ (zget_s1 hl0 (by decide) (by simp [zcat])) (zget_s1 hl1 (by decide) (by simp [zcat])) (zget_s1 hl2 (by decide) (by simp [zcat])) (zget_s1 hl3 (by decide) (by simp [zcat])) (zget_s1 hl4 (by decide) (by simp [zcat])) zget_s1e
        | some q =>
          obtain ⟨q1, -⟩ := suF_in w q r
          obtain ⟨lw, lw9⟩ := lost w hw
          obtain ⟨lq, lq9⟩ := lost q (by omega)
          have sw := scw w (by omega)
          have sq := scw q (by omega)
          have rw_ := cw w (by omega)
          have rq := cw q (by omega)
          have hl3' := hl3
          rw [r, show buV (some q) = nI q from rfl] at hl3'
          rw [show buV (some q) = nI q from rfl]
          refine pa_icmp_f (pc' := 24) dX6_surestBringer_21 (decide_eq_false (n2ne (by omega))) (by decide) rfl ?_
          refine pa_aload_n (pc' := 25) dX6_surestBringer_24 hl0 rfl ?_
          refine pa_getR (pc' := 28) (n := 7) (r := c) dX6_surestBringer_25 fl_6_25 s94 (by decide) r0 rfl ?_
          refine pa_getR (pc' := 31) (n := 15) (r := c + 4) dX6_surestBringer_28 fl_6_88 sc (by decide) c12 rfl ?_
          refine pa_iload (pc' := 33) dX6_surestBringer_31 hl4 rfl ?_
          refine pa_aald (pc' := 34) (r := c + 19 + w) dX6_surestBringer_33 sc4 (by decide) (zn_in (by omega) (by omega)) (by rw [nI_clamp (by omega)]; exact rw_) rfl ?_
          refine pa_getI (pc' := 37) (n := 4) (v := nI (nu A (110 + 4 * w))) dX6_surestBringer_34 fl_6_158 sw (by decide) lw rfl ?_
          refine pa_aload_n (pc' := 38) dX6_surestBringer_37 hl0 rfl ?_
          refine pa_getR (pc' := 41) (n := 7) (r := c) dX6_surestBringer_38 fl_6_25 s94 (by decide) r0 rfl ?_
          refine pa_getR (pc' := 44) (n := 15) (r := c + 4) dX6_surestBringer_41 fl_6_88 sc (by decide) c12 rfl ?_
          refine pa_iload_n (pc' := 45) dX6_surestBringer_44 hl3' rfl ?_
          refine pa_aald (pc' := 46) (r := c + 19 + q) dX6_surestBringer_45 sc4 (by decide) (zn_in (by omega) (by omega)) (by rw [nI_clamp (by omega)]; exact rq) rfl ?_
          refine pa_getI (pc' := 49) (n := 4) (v := nI (nu A (110 + 4 * q))) dX6_surestBringer_46 fl_6_158 sq (by decide) lq rfl ?_
          by_cases zz : nu A (110 + 4 * w) < nu A (110 + 4 * q)
          · refine pa_icmp_f (pc' := 52) dX6_surestBringer_49 (zk_lt_ge (b := true) (zj_lt (by rw [nI_toInt (by omega), nI_toInt (by omega)]; omega))) (by decide) rfl ?_
            refine pa_iconst (v := 1) (pc' := 53) dX6_surestBringer_52 (by decide) rfl ?_
            refine pa_goto (pc' := 57) dX6_surestBringer_53 (by decide) ?_
            refine pa_istore (pc' := 59) dX6_surestBringer_57 (by decide) rfl rfl ?_
            exact rest true (by rw [r]; exact ⟨fun _ => zz, fun _ => rfl⟩) _ (zget_s1 hl0 (by decide) (by simp [zcat])) (zget_s1 hl1 (by decide) (by simp [zcat])) (zget_s1 hl2 (by decide) (by simp [zcat])) (zget_s1 hl3 (by decide) (by simp [zcat])) (zget_s1 hl4 (by decide) (by simp [zcat])) zget_s1e
          · refine pa_icmp_t (pc' := 56) dX6_surestBringer_49 (zk_lt_ge (b := false) (zj_nlt (by rw [nI_toInt (by omega), nI_toInt (by omega)]; omega))) (by decide) ?_
            refine pa_iconst (v := 0) (pc' := 57) dX6_surestBringer_56 (by decide) rfl ?_
            refine pa_istore (pc' := 59) dX6_surestBringer_57 (by decide) rfl rfl ?_
            exact rest false (by rw [r]; exact ⟨fun e => (nomatch e), fun e => absurd e zz⟩) _ (zget_s1 hl0 (by decide) (by simp [zcat])) (zget_s1 hl1 (by decide) (by simp [zcat])) (zget_s1 hl2 (by decide) (by simp [zcat])) (zget_s1 hl3 (by decide) (by simp [zcat])) (zget_s1 hl4 (by decide) (by simp [zcat])) zget_s1e
  show zPn N none d mX6_surestBringer (0, [(0, .inr (.inr (some 94))), (1, .inl (nI b)), (2, .inl (buV but))], [], h) _
  refine pa_bipush (v := (-2)) (pc' := 2) dX6_surestBringer_0 (by decide) rfl ?_
  refine pa_istore_n (pc' := 3) dX6_surestBringer_2 (by decide) rfl rfl ?_
  refine pa_iconst (v := nI 0) (pc' := 4) dX6_surestBringer_3 (by decide) rfl ?_
  refine pa_istore (pc' := 6) dX6_surestBringer_4 (by decide) rfl rfl ?_
  exact lp N 0 _ h (Nat.zero_le _) gF3.rf rfl rfl rfl rfl rfl
theorem N_bringersBy (B0 : bgC A c s h) (K0 : rcC A c h) (hb : b < cB A) {D : Nat} (hD : D ≤ 99999) : zPa d mX6_bringersBy [.inr (.inr (some 94)), .inl (nI b), .inl (nI D)] h (fun v g => v = some (.inl (byF A s b D (cH A))) ∧ gF3 h g) := by
  intro N
  obtain ⟨hI, hT, hB, hN⟩ := B0.1
  obtain ⟨b1, b2, b3, b4, b5⟩ := hI.2.2.1
  have hc := B0.2.1.2.1
  have lp : ∀ (N w : Nat) (ls : zL) (g : zH), w ≤ cH A → gF3 h g → zget ls 0 = some (.inr (.inr (some 94))) → zget ls 1 = some (.inl (nI b)) → zget ls 2 = some (.inl (nI D)) → zget ls 3 = some (.inl (byF A s b D w)) → zget ls 4 = some (.inl (nI w)) → zPn N none d mX6_bringersBy (5, ls, [], g) (fun v g => v = some (.inl (byF A s b D (cH A))) ∧ gF3 h g) := by
    intro N
    induction N with
    | zero => intros; exact zPn.zero
    | succ N ih =>
      intro w ls g hw F hl0 hl1 hl2 hl3 hl4
      have B := B0.fr F
      have K := K0.f3 hI hc F
      have s94 : zsh g 94 = some (6, 7) := zsh_by B.2.1.1 (by decide +kernel)
      obtain ⟨sc, -⟩ := B.sh
      have r0 := B.2.1.2.2.2.1.1
      have e6 := K.2.2.2.1
      refine pa_iload (pc' := 7) dX6_bringersBy_5 hl4 rfl ?_
      refine pa_aload_n (pc' := 8) dX6_bringersBy_7 hl0 rfl ?_
      refine pa_getR (pc' := 11) (n := 7) (r := c) dX6_bringersBy_8 fl_6_25 s94 (by decide) r0 rfl ?_
      refine pa_getI (pc' := 14) (n := 15) (v := nI (cH A)) dX6_bringersBy_11 fl_6_152 sc (by decide) e6 rfl ?_
      refine pa_icmp (pc' := 52) (pc2 := 17) dX6_bringersBy_14 (by decide) rfl (fun z => ?_) (fun z => ?_)
      · have z := zi_nlt (zk_ge_lt z)
        rw [nI_toInt (by omega), nI_toInt (by omega)] at z
        have ew : w = cH A := by omega
        subst ew
        refine pa_iload_n (pc' := 53) dX6_bringersBy_52 hl3 rfl ?_
        refine pa_iret dX6_bringersBy_53 rfl rfl ?_
        exact ⟨rfl, F⟩
      · have z := zi_lt (zk_ge_lt z)
        rw [nI_toInt (by omega), nI_toInt (by omega)] at z
        have hw : w < cH A := by omega
        have nx : ∀ (g' : zH) (r : Int32), byF A s b D (w + 1) = r → gF3 h g' → ∀ ls', zget ls' 0 = some (.inr (.inr (some 94))) → zget ls' 1 = some (.inl (nI b)) → zget ls' 2 = some (.inl (nI D)) → zget ls' 3 = some (.inl r) → zget ls' 4 = some (.inl (nI w)) → zPn (N + 1) none d mX6_bringersBy (46, ls', [], g') (fun v g => v = some (.inl (byF A s b D (cH A))) ∧ gF3 h g) := fun g' r er F' ls' l0 l1 l2 l3 l4 => by
          refine pa_iinc (pc' := 49) (v := nI (w + 1)) dX6_bringersBy_46 l4 (by decide) (nI_add w 1) rfl rfl ?_
          refine pa_gotos (pc' := 5) dX6_bringersBy_49 (by decide) ?_
          subst er
          exact ih (w + 1) _ g' (by omega) F' (zget_s1 l0 (by decide) (by simp [zcat])) (zget_s1 l1 (by decide) (by simp [zcat])) (zget_s1 l2 (by decide) (by simp [zcat])) (zget_s1 l3 (by decide) (by simp [zcat])) zget_s1e
        refine pa_aload_n (pc' := 18) dX6_bringersBy_17 hl0 rfl ?_
        refine pa_iload (pc' := 20) dX6_bringersBy_18 hl4 rfl ?_
        refine pa_iload_n (pc' := 21) dX6_bringersBy_20 hl1 rfl ?_
        refine pa_callv (pc' := 24) (vs := [.inl (nI w), .inl (nI b)]) (rest := []) dX6_bringersBy_21 ml_6_155 (by decide) rfl rfl rfl (fun d' _ => (N_brings B hw hb)) (fun v g2 hq => ?_)
        obtain ⟨ev, eh⟩ := hq
        subst ev
        show zPn (N + 1) none d mX6_bringersBy (24, _, [.inl (brR A w (brV A s w b))], g2) _
        have F2 := F.tr eh.1
        rw [brR_bD]
        refine pa_istore (pc' := 26) dX6_bringersBy_24 (by decide) rfl rfl ?_
        refine pa_iload (pc' := 28) dX6_bringersBy_26 zget_s1e rfl ?_
        refine pa_bipush (v := (-2)) (pc' := 30) dX6_bringersBy_28 (by decide) rfl ?_
        cases o : bD A s w b with
        | none =>
          refine pa_icmp_t (pc' := 46) dX6_bringersBy_30 (show zcond .eq (-2 : Int32) (-2) = true by decide) (by decide) ?_
          refine nx g2 _ ?_ F2 _ (zget_s1 hl0 (by decide) (by simp [zcat])) (zget_s1 hl1 (by decide) (by simp [zcat])) (zget_s1 hl2 (by decide) (by simp [zcat])) (zget_s1 hl3 (by decide) (by simp [zcat])) (zget_s1 hl4 (by decide) (by simp [zcat]))
          show byS A s b D w (byF A s b D w) = _
          unfold byS
          rw [o]
        | some E =>
          have hE := bD_le hI hB hT hN hw hb o
          rw [show dV (some E) = nI E from rfl]
          have es : byF A s b D (w + 1) = if E ≤ D then byF A s b D w ||| (nI 1 <<< (nI w &&& 31)) else byF A s b D w := by
            show byS A s b D w (byF A s b D w) = _
            unfold byS
            rw [o]
          refine pa_icmp_f (pc' := 33) dX6_bringersBy_30 (decide_eq_false (n2ne (by omega))) (by decide) rfl ?_
          refine pa_iload (pc' := 35) dX6_bringersBy_33 zget_s1e rfl ?_
          refine pa_iload_n (pc' := 36) dX6_bringersBy_35 (zget_s1 hl2 (by decide) (by simp [zcat])) rfl ?_
          by_cases zz : E ≤ D
          · rw [if_pos zz] at es
            refine pa_icmp_f (pc' := 39) dX6_bringersBy_36 (by rw [zcond_i]; exact decide_eq_false (by rw [nI_toInt (by omega), nI_toInt (by omega)]; omega)) (by decide) rfl ?_
            refine pa_iload_n (pc' := 40) dX6_bringersBy_39 (zget_s1 hl3 (by decide) (by simp [zcat])) rfl ?_
            refine pa_iconst (v := nI 1) (pc' := 41) dX6_bringersBy_40 (by decide) rfl ?_
            refine pa_iload (pc' := 43) dX6_bringersBy_41 (zget_s1 hl4 (by decide) (by simp [zcat])) rfl ?_
            refine pa_ishl (pc' := 44) dX6_bringersBy_43 rfl rfl ?_
            refine pa_ior (pc' := 45) dX6_bringersBy_44 rfl rfl ?_
            refine pa_istore_n (pc' := 46) dX6_bringersBy_45 (by decide) rfl rfl ?_
            exact nx g2 _ es F2 _ (zget_s1 (zget_s1 hl0 (by decide) (by simp [zcat])) (by decide) (by simp [zcat])) (zget_s1 (zget_s1 hl1 (by decide) (by simp [zcat])) (by decide) (by simp [zcat])) (zget_s1 (zget_s1 hl2 (by decide) (by simp [zcat])) (by decide) (by simp [zcat])) zget_s1e (zget_s1 (zget_s1 hl4 (by decide) (by simp [zcat])) (by decide) (by simp [zcat]))
          · rw [if_neg zz] at es
            refine pa_icmp_t (pc' := 46) dX6_bringersBy_36 (by rw [zcond_i]; exact decide_eq_true (by rw [nI_toInt (by omega), nI_toInt (by omega)]; omega)) (by decide) ?_
            exact nx g2 _ es F2 _ (zget_s1 hl0 (by decide) (by simp [zcat])) (zget_s1 hl1 (by decide) (by simp [zcat])) (zget_s1 hl2 (by decide) (by simp [zcat])) (zget_s1 hl3 (by decide) (by simp [zcat])) (zget_s1 hl4 (by decide) (by simp [zcat]))
  show zPn N none d mX6_bringersBy (0, [(0, .inr (.inr (some 94))), (1, .inl (nI b)), (2, .inl (nI D))], [], h) _
  refine pa_iconst (v := 0) (pc' := 1) dX6_bringersBy_0 (by decide) rfl ?_
  refine pa_istore_n (pc' := 2) dX6_bringersBy_1 (by decide) rfl rfl ?_
  refine pa_iconst (v := nI 0) (pc' := 3) dX6_bringersBy_2 (by decide) rfl ?_
  refine pa_istore (pc' := 5) dX6_bringersBy_3 (by decide) rfl rfl ?_
  exact lp N 0 _ h (Nat.zero_le _) gF3.rf rfl rfl rfl rfl rfl
end AN5
/-! answers: soonest, surest, by: the calls -/
section AN6
variable {t d N c w b : Nat} {h g : zH} {A : pA} {s : nS} {H J : List nS} {x y f o : Int32} {kk : Bool} {im : Int32} {but : Option Nat}
theorem zlt_f {x : Int32} (h : ¬ x.toInt < 0) : zcond .lt x 0 = false := zj_nlt (by
  rw [show (0 : Int32).toInt = 0 by decide]
  omega)
theorem m1_no : ∀ w : Nat, w < 5 → ((-1 : Int32) = nI w ↔ some w = (none : Option Nat)) := fun w hw => ⟨fun q => by
  have := congrArg Int32.toInt q
  rw [nI_toInt (by omega), show (-1 : Int32).toInt = -1 by decide] at this
  omega, fun q => nomatch q⟩
theorem N_soonest11 (z : lZ A c s H J h) (hi : lInv t h) : zPa d mX11_soonest [.inr (.inr (some 0)), .inl x] h (fun v _ => v = some (.inl (soV A s x))) := by
  intro N
  have h1 := hi.2.2.2.2.1
  have hA := z.1.1
  have hT := z.1.2.1
  have hB := z.1.2.2
  have hI := hA.1
  have hN := z.2.1.1
  have K := hA.2.2.2.1
  have hc2 : c = 2 ∨ c = 42 := hA.2.1
  obtain ⟨b1, b2, b3, b4, b5⟩ := hI.2.2.1
  have s0 : zsh h 0 = some (11, 16) := zsh_by h1 (by decide +kernel)
  obtain ⟨sc, sc1, sc2, sc4, sc5, scw, scb⟩ := cSh hA.2.1 h1
  obtain ⟨c9, c12, c13, cw, cb⟩ := cRf_of hi.1 hA.2.1
  have S := hi.nw
  obtain ⟨⟨s86, s87, s88, s89, s90, s91⟩, r87, r88, r89, r90, r91⟩ := S.o86
  have r3 := hA.2.2.1
  have r6 := S.2.1
  obtain ⟨n1, n2, n3, n4⟩ := z.2.2.1.1
  show zPn N none d mX11_soonest (0, [(0, .inr (.inr (some 0))), (1, .inl x)], [], h) _
  refine pa_aload_n (pc' := 1) dX11_soonest_0 rfl rfl ?_
  refine pa_iload_n (pc' := 2) dX11_soonest_1 rfl rfl ?_
  refine pa_callv (pc' := 5) (vs := [.inl x]) (rest := []) dX11_soonest_2 ml_11_147 (by decide) rfl rfl rfl (fun d' _ => (N_isBox hA h1)) (fun v g9 hq => ?_)
  obtain ⟨ev, eh⟩ := hq
  subst ev
  rw [eh]
  show zPn N none d mX11_soonest (5, _, [.inl (if 0 ≤ (x).toInt ∧ (x).toInt < (cB A:Int) then 1 else 0)], h) _
  unfold soV heV
  by_cases hx : 0 ≤ x.toInt ∧ x.toInt < (cB A : Int)
  case neg =>
    rw [if_neg hx, if_neg hx]
    refine pa_if_t (pc' := 23) dX11_soonest_5 (by decide) (by decide) ?_
    refine pa_aload_n (pc' := 24) dX11_soonest_23 rfl rfl ?_
    refine pa_iconst (v := nI 1) (pc' := 25) dX11_soonest_24 (by decide) rfl ?_
    refine pa_callv (pc' := 28) (vs := [.inl (nI 1)]) (rest := []) dX11_soonest_25 ml_11_98 (by decide) rfl rfl rfl (fun d' _ => (c_ref s0)) (fun v g hq => ?_)
    obtain ⟨ev, eh⟩ := hq
    subst ev
    show zPn N none d mX11_soonest (28, _, [.inl ((-1))], g) _
    refine pa_iret dX11_soonest_28 rfl rfl ?_
    rfl
  rw [if_pos hx, if_pos hx]
  obtain ⟨b, rfl, hb, eb⟩ := nI_ob hx.1 hx.2
  have B := z.bc hi (hA.has hb)
  have r8 := hi.r8
  rw [eb]
  refine pa_if_f (pc' := 8) dX11_soonest_5 (by decide) (by decide) rfl ?_
  refine pa_aload_n (pc' := 9) dX11_soonest_8 rfl rfl ?_
  refine pa_aload_n (pc' := 10) dX11_soonest_9 rfl rfl ?_
  refine pa_getR (pc' := 13) (n := 16) (r := 94) dX11_soonest_10 fl_11_60 s0 (by decide) r8 rfl ?_
  refine pa_iload_n (pc' := 14) dX11_soonest_13 rfl rfl ?_
  refine pa_callv (pc' := 17) (vs := [.inl (nI b)]) (rest := [.inr (.inr (some 0))]) dX11_soonest_14 ml_11_286 (by decide) rfl rfl rfl (fun d' _ => (N_soonest B K hb)) (fun v g hq => ?_)
  obtain ⟨ev, eh⟩ := hq
  subst ev
  show zPn N none d mX11_soonest (17, _, [.inl (qV (soF A s b (cH A))), .inr (.inr (some 0))], g) _
  have t0 : zsh g 0 = some (11, 16) := zsh_by (eh.1.trans h1) (by decide +kernel)
  refine pa_callv (pc' := 20) (vs := [.inl (qV (soF A s b (cH A)))]) (rest := []) dX11_soonest_17 ml_11_112 (by decide) rfl rfl rfl (fun d' _ => (c_gra t0)) (fun v g9 hq => ?_)
  obtain ⟨ev, eh⟩ := hq
  subst ev
  show zPn N none d mX11_soonest (20, _, [.inl ((qV (soF A s b (cH A))))], g9) _
  refine pa_goto (pc' := 28) dX11_soonest_20 (by decide) ?_
  refine pa_iret dX11_soonest_28 rfl rfl ?_
  rfl
theorem N_surest11 (z : lZ A c s H J h) (hi : lInv t h) : zPa d mX11_surest [.inr (.inr (some 0)), .inl x] h (fun v _ => v = some (.inl (suV2 A s x))) := by
  intro N
  have h1 := hi.2.2.2.2.1
  have hA := z.1.1
  have hT := z.1.2.1
  have hB := z.1.2.2
  have hI := hA.1
  have hN := z.2.1.1
  have K := hA.2.2.2.1
  have hc2 : c = 2 ∨ c = 42 := hA.2.1
  obtain ⟨b1, b2, b3, b4, b5⟩ := hI.2.2.1
  have s0 : zsh h 0 = some (11, 16) := zsh_by h1 (by decide +kernel)
  obtain ⟨sc, sc1, sc2, sc4, sc5, scw, scb⟩ := cSh hA.2.1 h1
  obtain ⟨c9, c12, c13, cw, cb⟩ := cRf_of hi.1 hA.2.1
  have S := hi.nw
  obtain ⟨⟨s86, s87, s88, s89, s90, s91⟩, r87, r88, r89, r90, r91⟩ := S.o86
  have r3 := hA.2.2.1
  have r6 := S.2.1
  obtain ⟨n1, n2, n3, n4⟩ := z.2.2.1.1
  show zPn N none d mX11_surest (0, [(0, .inr (.inr (some 0))), (1, .inl x)], [], h) _
  refine pa_aload_n (pc' := 1) dX11_surest_0 rfl rfl ?_
  refine pa_iload_n (pc' := 2) dX11_surest_1 rfl rfl ?_
  refine pa_callv (pc' := 5) (vs := [.inl x]) (rest := []) dX11_surest_2 ml_11_147 (by decide) rfl rfl rfl (fun d' _ => (N_isBox hA h1)) (fun v g9 hq => ?_)
  obtain ⟨ev, eh⟩ := hq
  subst ev
  rw [eh]
  show zPn N none d mX11_surest (5, _, [.inl (if 0 ≤ (x).toInt ∧ (x).toInt < (cB A:Int) then 1 else 0)], h) _
  unfold suV2 heV
  by_cases hx : 0 ≤ x.toInt ∧ x.toInt < (cB A : Int)
  case neg =>
    rw [if_neg hx, if_neg hx]
    refine pa_if_t (pc' := 25) dX11_surest_5 (by decide) (by decide) ?_
    refine pa_aload_n (pc' := 26) dX11_surest_25 rfl rfl ?_
    refine pa_iconst (v := nI 1) (pc' := 27) dX11_surest_26 (by decide) rfl ?_
    refine pa_callv (pc' := 30) (vs := [.inl (nI 1)]) (rest := []) dX11_surest_27 ml_11_98 (by decide) rfl rfl rfl (fun d' _ => (c_ref s0)) (fun v g hq => ?_)
    obtain ⟨ev, eh⟩ := hq
    subst ev
    show zPn N none d mX11_surest (30, _, [.inl ((-1))], g) _
    refine pa_iret dX11_surest_30 rfl rfl ?_
    rfl
  rw [if_pos hx, if_pos hx]
  obtain ⟨b, rfl, hb, eb⟩ := nI_ob hx.1 hx.2
  have B := z.bc hi (hA.has hb)
  have r8 := hi.r8
  rw [eb]
  refine pa_if_f (pc' := 8) dX11_surest_5 (by decide) (by decide) rfl ?_
  refine pa_aload_n (pc' := 9) dX11_surest_8 rfl rfl ?_
  refine pa_aload_n (pc' := 10) dX11_surest_9 rfl rfl ?_
  refine pa_getR (pc' := 13) (n := 16) (r := 94) dX11_surest_10 fl_11_60 s0 (by decide) r8 rfl ?_
  refine pa_iload_n (pc' := 14) dX11_surest_13 rfl rfl ?_
  refine pa_bipush (v := (-2)) (pc' := 16) dX11_surest_14 (by decide) rfl ?_
  refine pa_callv (pc' := 19) (vs := [.inl (nI b), .inl ((-2))]) (rest := [.inr (.inr (some 0))]) dX11_surest_16 ml_11_289 (by decide) rfl rfl rfl (fun d' _ => (N_surest (but := none) B K hb (fun q e => nomatch e))) (fun v g hq => ?_)
  obtain ⟨ev, eh⟩ := hq
  subst ev
  show zPn N none d mX11_surest (19, _, [.inl (buV (suF A s b none (cH A))), .inr (.inr (some 0))], g) _
  have t0 : zsh g 0 = some (11, 16) := zsh_by (eh.1.trans h1) (by decide +kernel)
  refine pa_callv (pc' := 22) (vs := [.inl (buV (suF A s b none (cH A)))]) (rest := []) dX11_surest_19 ml_11_112 (by decide) rfl rfl rfl (fun d' _ => (c_gra t0)) (fun v g9 hq => ?_)
  obtain ⟨ev, eh⟩ := hq
  subst ev
  show zPn N none d mX11_surest (22, _, [.inl ((buV (suF A s b none (cH A))))], g9) _
  refine pa_goto (pc' := 30) dX11_surest_22 (by decide) ?_
  refine pa_iret dX11_surest_30 rfl rfl ?_
  rfl
theorem N_by11 (z : lZ A c s H J h) (hi : lInv t h) : zPa d mX11_by [.inr (.inr (some 0)), .inl x, .inl y] h (fun v _ => v = some (.inl (byV A s x y))) := by
  intro N
  have h1 := hi.2.2.2.2.1
  have hA := z.1.1
  have hT := z.1.2.1
  have hB := z.1.2.2
  have hI := hA.1
  have hN := z.2.1.1
  have K := hA.2.2.2.1
  have hc2 : c = 2 ∨ c = 42 := hA.2.1
  obtain ⟨b1, b2, b3, b4, b5⟩ := hI.2.2.1
  have s0 : zsh h 0 = some (11, 16) := zsh_by h1 (by decide +kernel)
  obtain ⟨sc, sc1, sc2, sc4, sc5, scw, scb⟩ := cSh hA.2.1 h1
  obtain ⟨c9, c12, c13, cw, cb⟩ := cRf_of hi.1 hA.2.1
  have S := hi.nw
  obtain ⟨⟨s86, s87, s88, s89, s90, s91⟩, r87, r88, r89, r90, r91⟩ := S.o86
  have r3 := hA.2.2.1
  have r6 := S.2.1
  obtain ⟨n1, n2, n3, n4⟩ := z.2.2.1.1
  show zPn N none d mX11_by (0, [(0, .inr (.inr (some 0))), (1, .inl x), (2, .inl y)], [], h) _
  refine pa_aload_n (pc' := 1) dX11_by_0 rfl rfl ?_
  refine pa_iload_n (pc' := 2) dX11_by_1 rfl rfl ?_
  refine pa_callv (pc' := 5) (vs := [.inl x]) (rest := []) dX11_by_2 ml_11_147 (by decide) rfl rfl rfl (fun d' _ => (N_isBox hA h1)) (fun v g9 hq => ?_)
  obtain ⟨ev, eh⟩ := hq
  subst ev
  rw [eh]
  show zPn N none d mX11_by (5, _, [.inl (if 0 ≤ (x).toInt ∧ (x).toInt < (cB A:Int) then 1 else 0)], h) _
  by_cases hx : 0 ≤ x.toInt ∧ x.toInt < (cB A : Int)
  case neg =>
    rw [if_neg hx]
    refine pa_if_f (pc' := 8) dX11_by_5 (by decide) (by decide) rfl ?_
    refine pa_aload_n (pc' := 9) dX11_by_8 rfl rfl ?_
    refine pa_iconst (v := nI 1) (pc' := 10) dX11_by_9 (by decide) rfl ?_
    refine pa_callv (pc' := 13) (vs := [.inl (nI 1)]) (rest := []) dX11_by_10 ml_11_98 (by decide) rfl rfl rfl (fun d' _ => (c_ref s0)) (fun v g hq => ?_)
    obtain ⟨ev, eh⟩ := hq
    subst ev
    show zPn N none d mX11_by (13, _, [.inl ((-1))], g) _
    refine pa_iret dX11_by_13 rfl rfl ?_
    unfold byV
    rw [if_neg (fun q => hx q.1)]
  rw [if_pos hx]
  obtain ⟨b, rfl, hb, eb⟩ := nI_ob hx.1 hx.2
  have B := z.bc hi (hA.has hb)
  have r8 := hi.r8
  refine pa_if_t (pc' := 14) dX11_by_5 (by decide) (by decide) ?_
  refine pa_iload_n (pc' := 15) dX11_by_14 rfl rfl ?_
  refine pa_ldc (pc' := 17) dX11_by_15 cl_11_226 rfl rfl ?_
  refine pa_calls (pc' := 20) (kd := 1) (vs := [.inl y, .inl 99999]) (rest := []) dX11_by_17 ml_11_227 (.inl rfl) rfl rfl rfl (fun d' _ => N_inQ) (fun v g9 hq => ?_)
  obtain ⟨ev, eh⟩ := hq
  subst ev
  rw [eh]
  show zPn N none d mX11_by (20, _, [.inl (if 0 ≤ (y).toInt ∧ (y).toInt ≤ ((99999 : Int32)).toInt then 1 else 0)], h) _
  rw [show (99999 : Int32).toInt = 99999 by decide]
  by_cases hy : 0 ≤ y.toInt ∧ y.toInt ≤ 99999
  case neg =>
    rw [if_neg hy]
    refine pa_if_f (pc' := 23) dX11_by_20 (by decide) (by decide) rfl ?_
    refine pa_aload_n (pc' := 24) dX11_by_23 rfl rfl ?_
    refine pa_iconst (v := nI 2) (pc' := 25) dX11_by_24 (by decide) rfl ?_
    refine pa_callv (pc' := 28) (vs := [.inl (nI 2)]) (rest := []) dX11_by_25 ml_11_98 (by decide) rfl rfl rfl (fun d' _ => (c_ref s0)) (fun v g hq => ?_)
    obtain ⟨ev, eh⟩ := hq
    subst ev
    show zPn N none d mX11_by (28, _, [.inl ((-1))], g) _
    refine pa_iret dX11_by_28 rfl rfl ?_
    unfold byV
    rw [if_neg (fun q => hy q.2)]
  rw [if_pos hy]
  obtain ⟨n, rfl, hn, en⟩ := nI_ob (n := 100000) hy.1 (by omega)
  refine pa_if_t (pc' := 29) dX11_by_20 (by decide) (by decide) ?_
  refine pa_aload_n (pc' := 30) dX11_by_29 rfl rfl ?_
  refine pa_aload_n (pc' := 31) dX11_by_30 rfl rfl ?_
  refine pa_getR (pc' := 34) (n := 16) (r := 94) dX11_by_31 fl_11_60 s0 (by decide) r8 rfl ?_
  refine pa_iload_n (pc' := 35) dX11_by_34 rfl rfl ?_
  refine pa_iload_n (pc' := 36) dX11_by_35 rfl rfl ?_
  refine pa_callv (pc' := 39) (vs := [.inl (nI b), .inl (nI n)]) (rest := [.inr (.inr (some 0))]) dX11_by_36 ml_11_292 (by decide) rfl rfl rfl (fun d' _ => (N_bringersBy B K hb (by omega))) (fun v g hq => ?_)
  obtain ⟨ev, eh⟩ := hq
  subst ev
  show zPn N none d mX11_by (39, _, [.inl (byF A s b n (cH A)), .inr (.inr (some 0))], g) _
  have t0 : zsh g 0 = some (11, 16) := zsh_by (eh.1.trans h1) (by decide +kernel)
  refine pa_callv (pc' := 42) (vs := [.inl (byF A s b n (cH A))]) (rest := []) dX11_by_39 ml_11_112 (by decide) rfl rfl rfl (fun d' _ => (c_gra t0)) (fun v g9 hq => ?_)
  obtain ⟨ev, eh⟩ := hq
  subst ev
  show zPn N none d mX11_by (42, _, [.inl ((byF A s b n (cH A)))], g9) _
  refine pa_iret dX11_by_42 rfl rfl ?_
  unfold byV
  rw [if_pos ⟨hx, hy⟩, eb, en]
/-- the reference: behind heaps that who brings a box leaves -/
theorem M_6 (hA : lPA A c h) (z : cI A ≠ 0) : h.2.1 199 6 = nI (cH A) := by
  rcases hA.2.2.2.2 with ⟨-, e⟩ | ⟨-, -, K⟩
  · exact absurd (by rw [e]; rfl) z
  · exact K.2.2.2.2.1
theorem N_soonest12 (z : lZ A c s H J g) (m : lMid kk im t g h) : zPa d mX12_soonest [.inr (.inr (some 196)), .inl x] h (fun v _ => v = some (.inl (soV A s x))) := by
  intro N
  have s196 : zsh h 196 = some (12, 39) := zsh_by m.2.1.2.2.2 (by decide +kernel)
  generalize eg : zsI (zsI h 196 0 0) 196 11 0 = h2
  have e2 : ∀ a k, a ≠ 196 → h2.2.1 a k = h.2.1 a k := fun a k ha => by rw [← eg, zsI_no (by omega), zsI_no (by omega)]
  have e3 : ∀ k, k ≠ 0 → k ≠ 11 → h2.2.1 196 k = h.2.1 196 k := fun k w1 w2 => by rw [← eg, zsI_no (by omega), zsI_no (by omega)]
  have h1 : h2.1 = hh_487.1 := by rw [← eg]; exact m.2.1.2.2.2
  have hA : lPA A c h2 := by rw [← eg]; exact (m.pa z.1.1).gd
  have B : cI A ≠ 0 → bgM A s h2 := fun ne => by rw [← eg]; exact (z.bm m ne).gd
  have er : h2.2.2.2.1 = h.2.2.2.1 := by rw [← eg]; rfl
  have q15 : h2.2.2.2.1 196 15 = some 199 := by rw [er]; exact m.r15
  have q17 : h2.2.2.2.1 196 17 = some 201 := by rw [er]; exact m.mw.2.1
  have z196 : zsh h2 196 = some (12, 39) := zsh_by h1 (by decide +kernel)
  have z199 : zsh h2 199 = some (14, 363) := zsh_by h1 (by decide +kernel)
  have z201 : zsh h2 201 = some (14, 76) := zsh_by h1 (by decide +kernel)
  have M : nMo A s 201 0 h2 := (z.lm m).1.1.fr (fun k => e2 _ _ (by decide))
  have hT := z.1.2.1
  have hB := z.1.2.2
  have hI := z.1.1.1
  have hN := z.2.1.1
  have k0 : (0 : Int32).toInt = 0 := by decide
  obtain ⟨b1, b2, b3, b4, b5⟩ := hI.2.2.1
  show zPn N none d mX12_soonest (0, [(0, .inr (.inr (some 196))), (1, .inl x)], [], h) _
  refine pa_aload_n (pc' := 1) dX12_soonest_0 rfl rfl ?_
  refine pa_callv (pc' := 4) (vs := []) (rest := []) dX12_soonest_1 ml_12_167 (by decide) rfl rfl rfl (fun d' _ => (m_good s196)) (fun v h3 hq => ?_)
  obtain ⟨ev, eh⟩ := hq
  subst ev
  show zPn N none d mX12_soonest (4, _, [], h3) _
  rw [eg] at eh
  subst eh
  refine pa_aload_n (pc' := 5) dX12_soonest_4 rfl rfl ?_
  refine pa_iload_n (pc' := 6) dX12_soonest_5 rfl rfl ?_
  refine pa_callv (pc' := 9) (vs := [.inl x]) (rest := []) dX12_soonest_6 ml_12_274 (by decide) rfl rfl rfl (fun d' _ => (M_isBox hA q15 h1)) (fun v g9 hq => ?_)
  obtain ⟨ev, eh⟩ := hq
  subst ev
  rw [eh]
  show zPn N none d mX12_soonest (9, _, [.inl (if 0 ≤ (x).toInt ∧ (x).toInt < (cB A:Int) then 1 else 0)], h3) _
  unfold soV heV
  by_cases hx : 0 ≤ x.toInt ∧ x.toInt < (cB A : Int)
  case neg =>
    rw [if_neg hx, if_neg hx]
    refine pa_if_f (pc' := 12) dX12_soonest_9 (by decide) (by decide) rfl ?_
    refine pa_aload_n (pc' := 13) dX12_soonest_12 rfl rfl ?_
    refine pa_iconst (v := nI 1) (pc' := 14) dX12_soonest_13 (by decide) rfl ?_
    refine pa_callv (pc' := 17) (vs := [.inl (nI 1)]) (rest := []) dX12_soonest_14 ml_12_170 (by decide) rfl rfl rfl (fun d' _ => (m_no z196)) (fun v g hq => ?_)
    obtain ⟨ev, eh⟩ := hq
    subst ev
    show zPn N none d mX12_soonest (17, _, [.inl ((-1))], g) _
    refine pa_iret dX12_soonest_17 rfl rfl ?_
    rfl
  rw [if_pos hx, if_pos hx]
  obtain ⟨b, rfl, hb, eb⟩ := nI_ob hx.1 hx.2
  have B0 := B (hA.has hb)
  have e6 := M_6 hA (hA.has hb)
  rw [eb]
  have lp : ∀ (N w : Nat) (ls : zL) (g : zH), w ≤ cH A → gF4 h3 g → zget ls 0 = some (.inr (.inr (some 196))) → zget ls 1 = some (.inl (nI b)) → zget ls 2 = some (.inl (qV (soF A s b w))) → zget ls 3 = some (.inl (nI w)) → zPn N none d mX12_soonest (23, ls, [], g) (fun v _ => v = some (.inl (qV (soF A s b (cH A))))) := by
    intro N
    induction N with
    | zero => intros; exact zPn.zero
    | succ N ih =>
      intro w ls g hw F hl0 hl1 hl2 hl3
      have B := B0.fr F
      have s196 := sh_196' B.2.1.1
      have s199 : zsh g 199 = some (14, 363) := zsh_by B.2.1.1 (by decide +kernel)
      have r15 := B.2.1.2.2.2.1.1
      have e6 : g.2.1 199 6 = nI (cH A) := (F.2.2 199 6 (by decide) (by decide) (by decide)).trans e6
      refine pa_iload_n (pc' := 24) dX12_soonest_23 hl3 rfl ?_
      refine pa_aload_n (pc' := 25) dX12_soonest_24 hl0 rfl ?_
      refine pa_getR (pc' := 28) (n := 39) (r := 199) dX12_soonest_25 fl_12_20 s196 (by decide) r15 rfl ?_
      refine pa_bipush (v := nI 6) (pc' := 30) dX12_soonest_28 (by decide) rfl ?_
      refine pa_iald (pc' := 31) dX12_soonest_30 s199 rfl (fun _ => ?_)
      rw [nI_clamp (by omega), e6]
      refine pa_icmp (pc' := 70) (pc2 := 34) dX12_soonest_31 (by decide) rfl (fun z => ?_) (fun z => ?_)
      · have z := zi_nlt (zk_ge_lt z)
        rw [nI_toInt (by omega), nI_toInt (by omega)] at z
        have ew : w = cH A := by omega
        subst ew
        refine pa_iload_n (pc' := 71) dX12_soonest_70 hl2 rfl ?_
        refine pa_iret dX12_soonest_71 rfl rfl ?_
        rfl
      · have z := zi_lt (zk_ge_lt z)
        rw [nI_toInt (by omega), nI_toInt (by omega)] at z
        have hw : w < cH A := by omega
        have nx : ∀ (g' : zH) (r : Option (Nat × Nat)), soF A s b (w + 1) = r → gF4 h3 g' → ∀ ls', zget ls' 0 = some (.inr (.inr (some 196))) → zget ls' 1 = some (.inl (nI b)) → zget ls' 2 = some (.inl (qV r)) → zget ls' 3 = some (.inl (nI w)) → zPn (N + 1) none d mX12_soonest (64, ls', [], g') (fun v _ => v = some (.inl (qV (soF A s b (cH A))))) := fun g' r er F' ls' l0 l1 l2 l3 => by
          refine pa_iinc (pc' := 67) (v := nI (w + 1)) dX12_soonest_64 l3 (by decide) (nI_add w 1) rfl rfl ?_
          refine pa_gotos (pc' := 23) dX12_soonest_67 (by decide) ?_
          subst er
          exact ih (w + 1) _ g' (by omega) F' (zget_s1 l0 (by decide) (by simp [zcat])) (zget_s1 l1 (by decide) (by simp [zcat])) (zget_s1 l2 (by decide) (by simp [zcat])) zget_s1e
        refine pa_aload_n (pc' := 35) dX12_soonest_34 hl0 rfl ?_
        refine pa_iload_n (pc' := 36) dX12_soonest_35 hl3 rfl ?_
        refine pa_iload_n (pc' := 37) dX12_soonest_36 hl1 rfl ?_
        refine pa_callv (pc' := 40) (vs := [.inl (nI w), .inl (nI b)]) (rest := []) dX12_soonest_37 ml_12_367 (by decide) rfl rfl rfl (fun d' _ => (M_bringsOf B hw hb)) (fun v g2 hq => ?_)
        obtain ⟨ev, eh⟩ := hq
        subst ev
        show zPn (N + 1) none d mX12_soonest (40, _, [.inl (brR A w (brV A s w b))], g2) _
        have F2 := F.tr eh
        have B2 := B0.fr F2
        rw [brR_bD]
        cases o : bD A s w b with
        | none =>
          refine pa_if_t (pc' := 64) dX12_soonest_40 (show zcond .lt (-2 : Int32) 0 = true by decide) (by decide) ?_
          refine nx g2 _ ?_ F2 _ hl0 hl1 hl2 hl3
          show soS A s b w (soF A s b w) = _
          unfold soS
          rw [o]
        | some D =>
          have hD := bD_le hI hB hT hN hw hb o
          rw [show dV (some D) = nI D from rfl]
          refine pa_if_f (pc' := 43) dX12_soonest_40 (zlt_f (n2ge (by omega))) (by decide) rfl ?_
          refine pa_iload_n (pc' := 44) dX12_soonest_43 hl2 rfl ?_
          cases r : soF A s b w with
          | none =>
            refine pa_if_t (pc' := 62) dX12_soonest_44 (show zcond .lt (-2 : Int32) 0 = true by decide) (by decide) ?_
            refine pa_iload_n (pc' := 63) dX12_soonest_62 hl3 rfl ?_
            refine pa_istore_n (pc' := 64) dX12_soonest_63 (by decide) rfl rfl ?_
            refine nx g2 (some (w, D)) ?_ F2 _ (zget_s1 hl0 (by decide) (by simp [zcat])) (zget_s1 hl1 (by decide) (by simp [zcat])) zget_s1e (zget_s1 hl3 (by decide) (by simp [zcat]))
            show soS A s b w (soF A s b w) = _
            unfold soS
            rw [o, r]
          | some q =>
            obtain ⟨q1, q2⟩ := soF_in w q r
            have hqH : q.1 < cH A := by omega
            have hq := bD_le hI hB hT hN hqH hb q2
            have es : soF A s b (w + 1) = if D < q.2 then some (w, D) else some q := by
              show soS A s b w (soF A s b w) = _
              unfold soS
              rw [o, r]
            have hl2' := hl2
            rw [r, show qV (some q) = nI q.1 from rfl] at hl2'
            rw [show qV (some q) = nI q.1 from rfl]
            refine pa_if_f (pc' := 47) dX12_soonest_44 (zlt_f (n2ge (by omega))) (by decide) rfl ?_
            refine pa_aload_n (pc' := 48) dX12_soonest_47 hl0 rfl ?_
            refine pa_iload_n (pc' := 49) dX12_soonest_48 hl3 rfl ?_
            refine pa_iload_n (pc' := 50) dX12_soonest_49 hl1 rfl ?_
            refine pa_callv (pc' := 53) (vs := [.inl (nI w), .inl (nI b)]) (rest := []) dX12_soonest_50 ml_12_367 (by decide) rfl rfl rfl (fun d' _ => (M_bringsOf B2 hw hb)) (fun v g3 hq => ?_)
            obtain ⟨ev, eh⟩ := hq
            subst ev
            show zPn (N + 1) none d mX12_soonest (53, _, [.inl (brR A w (brV A s w b))], g3) _
            have F3 := F2.tr eh
            have B3 := B0.fr F3
            rw [brR_bD, o, show dV (some D) = nI D from rfl]
            refine pa_aload_n (pc' := 54) dX12_soonest_53 hl0 rfl ?_
            refine pa_iload_n (pc' := 55) dX12_soonest_54 hl2' rfl ?_
            refine pa_iload_n (pc' := 56) dX12_soonest_55 hl1 rfl ?_
            refine pa_callv (pc' := 59) (vs := [.inl (nI q.1), .inl (nI b)]) (rest := [.inl (nI D)]) dX12_soonest_56 ml_12_367 (by decide) rfl rfl rfl (fun d' _ => (M_bringsOf B3 hqH hb)) (fun v g4 hq => ?_)
            obtain ⟨ev, eh⟩ := hq
            subst ev
            show zPn (N + 1) none d mX12_soonest (59, _, [.inl (brR A q.1 (brV A s q.1 b)), .inl (nI D)], g4) _
            have F4 := F3.tr eh
            rw [brR_bD, q2, show dV (some q.2) = nI q.2 from rfl]
            by_cases zz : D < q.2
            · rw [if_pos zz] at es
              refine pa_icmp_f (pc' := 62) dX12_soonest_59 (zk_lt_ge (b := true) (zj_lt (by rw [nI_toInt (by omega), nI_toInt (by omega)]; omega))) (by decide) rfl ?_
              refine pa_iload_n (pc' := 63) dX12_soonest_62 hl3 rfl ?_
              refine pa_istore_n (pc' := 64) dX12_soonest_63 (by decide) rfl rfl ?_
              exact nx g4 _ es F4 _ (zget_s1 hl0 (by decide) (by simp [zcat])) (zget_s1 hl1 (by decide) (by simp [zcat])) zget_s1e (zget_s1 hl3 (by decide) (by simp [zcat]))
            · rw [if_neg zz] at es
              refine pa_icmp_t (pc' := 64) dX12_soonest_59 (zk_lt_ge (b := false) (zj_nlt (by rw [nI_toInt (by omega), nI_toInt (by omega)]; omega))) (by decide) ?_
              exact nx g4 _ es F4 _ hl0 hl1 hl2' hl3
  refine pa_if_t (pc' := 18) dX12_soonest_9 (by decide) (by decide) ?_
  refine pa_bipush (v := (-2)) (pc' := 20) dX12_soonest_18 (by decide) rfl ?_
  refine pa_istore_n (pc' := 21) dX12_soonest_20 (by decide) rfl rfl ?_
  refine pa_iconst (v := nI 0) (pc' := 22) dX12_soonest_21 (by decide) rfl ?_
  refine pa_istore_n (pc' := 23) dX12_soonest_22 (by decide) rfl rfl ?_
  exact lp _ 0 _ h3 (Nat.zero_le _) gF4.rf rfl rfl rfl rfl
theorem M_surest (B0 : bgM A s h) (e6 : h.2.1 199 6 = nI (cH A)) (hb : b < cB A) {bv : Int32} (hbv : ∀ w : Nat, w < 5 → (bv = nI w ↔ some w = but)) : zPa d mX12_surestBut [.inr (.inr (some 196)), .inl (nI b), .inl bv] h (fun v g => v = some (.inl (buV (suF A s b but (cH A)))) ∧ gF4 h g) := by
  intro N
  obtain ⟨hI, hT, hB, hN⟩ := B0.1
  obtain ⟨b1, b2, b3, b4, b5⟩ := hI.2.2.1
  have lp : ∀ (N w : Nat) (ls : zL) (g : zH), w ≤ cH A → gF4 h g → zget ls 0 = some (.inr (.inr (some 196))) → zget ls 1 = some (.inl (nI b)) → zget ls 2 = some (.inl bv) → zget ls 3 = some (.inl (buV (suF A s b but w))) → zget ls 4 = some (.inl (nI w)) → zPn N none d mX12_surestBut (6, ls, [], g) (fun v g => v = some (.inl (buV (suF A s b but (cH A)))) ∧ gF4 h g) := by
    intro N
    induction N with
    | zero => intros; exact zPn.zero
    | succ N ih =>
      intro w ls g hw F hl0 hl1 hl2 hl3 hl4
      have B := B0.fr F
      have s196 := sh_196' B.2.1.1
      have s199 : zsh g 199 = some (14, 363) := zsh_by B.2.1.1 (by decide +kernel)
      have r15 := B.2.1.2.2.2.1.1
      have e6 : g.2.1 199 6 = nI (cH A) := (F.2.2 199 6 (by decide) (by decide) (by decide)).trans e6
      refine pa_iload (pc' := 8) dX12_surestBut_6 hl4 rfl ?_
      refine pa_aload_n (pc' := 9) dX12_surestBut_8 hl0 rfl ?_
      refine pa_getR (pc' := 12) (n := 39) (r := 199) dX12_surestBut_9 fl_12_20 s196 (by decide) r15 rfl ?_
      refine pa_bipush (v := nI 6) (pc' := 14) dX12_surestBut_12 (by decide) rfl ?_
      refine pa_iald (pc' := 15) dX12_surestBut_14 s199 rfl (fun _ => ?_)
      rw [nI_clamp (by omega), e6]
      refine pa_icmp (pc' := 63) (pc2 := 18) dX12_surestBut_15 (by decide) rfl (fun z => ?_) (fun z => ?_)
      · have z := zi_nlt (zk_ge_lt z)
        rw [nI_toInt (by omega), nI_toInt (by omega)] at z
        have ew : w = cH A := by omega
        subst ew
        refine pa_iload_n (pc' := 64) dX12_surestBut_63 hl3 rfl ?_
        refine pa_iret dX12_surestBut_64 rfl rfl ?_
        exact ⟨rfl, F⟩
      · have z := zi_lt (zk_ge_lt z)
        rw [nI_toInt (by omega), nI_toInt (by omega)] at z
        have hw : w < cH A := by omega
        have nx : ∀ (g' : zH) (r : Option Nat), suF A s b but (w + 1) = r → gF4 h g' → ∀ ls', zget ls' 0 = some (.inr (.inr (some 196))) → zget ls' 1 = some (.inl (nI b)) → zget ls' 2 = some (.inl bv) → zget ls' 3 = some (.inl (buV r)) → zget ls' 4 = some (.inl (nI w)) → zPn (N + 1) none d mX12_surestBut (57, ls', [], g') (fun v g => v = some (.inl (buV (suF A s b but (cH A)))) ∧ gF4 h g) := fun g' r er F' ls' l0 l1 l2 l3 l4 => by
          refine pa_iinc (pc' := 60) (v := nI (w + 1)) dX12_surestBut_57 l4 (by decide) (nI_add w 1) rfl rfl ?_
          refine pa_gotos (pc' := 6) dX12_surestBut_60 (by decide) ?_
          subst er
          exact ih (w + 1) _ g' (by omega) F' (zget_s1 l0 (by decide) (by simp [zcat])) (zget_s1 l1 (by decide) (by simp [zcat])) (zget_s1 l2 (by decide) (by simp [zcat])) (zget_s1 l3 (by decide) (by simp [zcat])) zget_s1e
        refine pa_iload (pc' := 20) dX12_surestBut_18 hl4 rfl ?_
        refine pa_iload_n (pc' := 21) dX12_surestBut_20 hl2 rfl ?_
        by_cases zb : some w = but
        · refine pa_icmp_t (pc' := 57) dX12_surestBut_21 (decide_eq_true ((hbv w (by omega)).mpr zb).symm) (by decide) ?_
          refine nx g _ ?_ F _ hl0 hl1 hl2 hl3 hl4
          show suS A s b but w (suF A s b but w) = _
          unfold suS
          rw [if_pos zb]
        · refine pa_icmp_f (pc' := 24) dX12_surestBut_21 (decide_eq_false (fun e => zb ((hbv w (by omega)).mp e.symm))) (by decide) rfl ?_
          refine pa_aload_n (pc' := 25) dX12_surestBut_24 hl0 rfl ?_
          refine pa_iload (pc' := 27) dX12_surestBut_25 hl4 rfl ?_
          refine pa_iload_n (pc' := 28) dX12_surestBut_27 hl1 rfl ?_
          refine pa_callv (pc' := 31) (vs := [.inl (nI w), .inl (nI b)]) (rest := []) dX12_surestBut_28 ml_12_367 (by decide) rfl rfl rfl (fun d' _ => (M_bringsOf B hw hb)) (fun v g2 hq => ?_)
          obtain ⟨ev, eh⟩ := hq
          subst ev
          show zPn (N + 1) none d mX12_surestBut (31, _, [.inl (brR A w (brV A s w b))], g2) _
          have F2 := F.tr eh
          have B2 := B0.fr F2
          rw [brR_bD]
          cases o : bD A s w b with
          | none =>
            refine pa_if_t (pc' := 57) dX12_surestBut_31 (show zcond .lt (-2 : Int32) 0 = true by decide) (by decide) ?_
            refine nx g2 _ ?_ F2 _ hl0 hl1 hl2 hl3 hl4
            show suS A s b but w (suF A s b but w) = _
            unfold suS
            rw [if_neg zb, o]
          | some D =>
            have hD := bD_le hI hB hT hN hw hb o
            rw [show dV (some D) = nI D from rfl]
            refine pa_if_f (pc' := 34) dX12_surestBut_31 (zlt_f (n2ge (by omega))) (by decide) rfl ?_
            refine pa_iload_n (pc' := 35) dX12_surestBut_34 hl3 rfl ?_
            cases r : suF A s b but w with
            | none =>
              refine pa_if_t (pc' := 54) dX12_surestBut_35 (show zcond .lt (-2 : Int32) 0 = true by decide) (by decide) ?_
              refine pa_iload (pc' := 56) dX12_surestBut_54 hl4 rfl ?_
              refine pa_istore_n (pc' := 57) dX12_surestBut_56 (by decide) rfl rfl ?_
              refine nx g2 (some w) ?_ F2 _ (zget_s1 hl0 (by decide) (by simp [zcat])) (zget_s1 hl1 (by decide) (by simp [zcat])) (zget_s1 hl2 (by decide) (by simp [zcat])) zget_s1e (zget_s1 hl4 (by decide) (by simp [zcat]))
              show suS A s b but w (suF A s b but w) = _
              unfold suS
              rw [if_neg zb, o, r]
            | some q =>
              obtain ⟨q1, -⟩ := suF_in w q r
              have hq : q < cH A := by omega
              have es : suF A s b but (w + 1) = if nu A (110 + 4 * w) < nu A (110 + 4 * q) then some w else some q := by
                show suS A s b but w (suF A s b but w) = _
                unfold suS
                rw [if_neg zb, o, r]
              have lw := (num_whale hI hB hT hw).2.2.2
              have lq := (num_whale hI hB hT hq).2.2.2
              have hl3' := hl3
              rw [r, show buV (some q) = nI q from rfl] at hl3'
              rw [show buV (some q) = nI q from rfl]
              refine pa_if_f (pc' := 38) dX12_surestBut_35 (zlt_f (n2ge (by omega))) (by decide) rfl ?_
              refine pa_aload_n (pc' := 39) dX12_surestBut_38 hl0 rfl ?_
              refine pa_iload (pc' := 41) dX12_surestBut_39 hl4 rfl ?_
              refine pa_iconst (v := nI 3) (pc' := 42) dX12_surestBut_41 (by decide) rfl ?_
              refine pa_callv (pc' := 45) (vs := [.inl (nI w), .inl (nI 3)]) (rest := []) dX12_surestBut_42 ml_12_271 (by decide) rfl rfl rfl (fun d' _ => (M_ofWhale (j := 3) B2 hw (by decide))) (fun v g9 hq => ?_)
              obtain ⟨ev, eh⟩ := hq
              subst ev
              rw [eh]
              show zPn (N + 1) none d mX12_surestBut (45, _, [.inl (vA A (107 + 4 * w + 3))], g2) _
              rw [lw.2 3 (by decide), show 107 + 4 * w + 3 = 110 + 4 * w by omega]
              refine pa_aload_n (pc' := 46) dX12_surestBut_45 hl0 rfl ?_
              refine pa_iload_n (pc' := 47) dX12_surestBut_46 hl3' rfl ?_
              refine pa_iconst (v := nI 3) (pc' := 48) dX12_surestBut_47 (by decide) rfl ?_
              refine pa_callv (pc' := 51) (vs := [.inl (nI q), .inl (nI 3)]) (rest := [.inl (nI (nu A (110 + 4 * w)))]) dX12_surestBut_48 ml_12_271 (by decide) rfl rfl rfl (fun d' _ => (M_ofWhale (j := 3) B2 hq (by decide))) (fun v g9 hq => ?_)
              obtain ⟨ev, eh⟩ := hq
              subst ev
              rw [eh]
              show zPn (N + 1) none d mX12_surestBut (51, _, [.inl (vA A (107 + 4 * q + 3)), .inl (nI (nu A (110 + 4 * w)))], g2) _
              rw [lq.2 3 (by decide), show 107 + 4 * q + 3 = 110 + 4 * q by omega]
              by_cases zz : nu A (110 + 4 * w) < nu A (110 + 4 * q)
              · rw [if_pos zz] at es
                refine pa_icmp_f (pc' := 54) dX12_surestBut_51 (zk_lt_ge (b := true) (zj_lt (by rw [nI_toInt (by omega), nI_toInt (by omega)]; omega))) (by decide) rfl ?_
                refine pa_iload (pc' := 56) dX12_surestBut_54 hl4 rfl ?_
                refine pa_istore_n (pc' := 57) dX12_surestBut_56 (by decide) rfl rfl ?_
                exact nx g2 _ es F2 _ (zget_s1 hl0 (by decide) (by simp [zcat])) (zget_s1 hl1 (by decide) (by simp [zcat])) (zget_s1 hl2 (by decide) (by simp [zcat])) zget_s1e (zget_s1 hl4 (by decide) (by simp [zcat]))
              · rw [if_neg zz] at es
                refine pa_icmp_t (pc' := 57) dX12_surestBut_51 (zk_lt_ge (b := false) (zj_nlt (by rw [nI_toInt (by omega), nI_toInt (by omega)]; omega))) (by decide) ?_
                exact nx g2 _ es F2 _ hl0 hl1 hl2 hl3' hl4
  show zPn N none d mX12_surestBut (0, [(0, .inr (.inr (some 196))), (1, .inl (nI b)), (2, .inl bv)], [], h) _
  refine pa_bipush (v := (-2)) (pc' := 2) dX12_surestBut_0 (by decide) rfl ?_
  refine pa_istore_n (pc' := 3) dX12_surestBut_2 (by decide) rfl rfl ?_
  refine pa_iconst (v := nI 0) (pc' := 4) dX12_surestBut_3 (by decide) rfl ?_
  refine pa_istore (pc' := 6) dX12_surestBut_4 (by decide) rfl rfl ?_
  exact lp N 0 _ h (Nat.zero_le _) gF4.rf rfl rfl rfl rfl rfl
theorem N_surest12 (z : lZ A c s H J g) (m : lMid kk im t g h) : zPa d mX12_surest [.inr (.inr (some 196)), .inl x] h (fun v _ => v = some (.inl (suV2 A s x))) := by
  intro N
  have s196 : zsh h 196 = some (12, 39) := zsh_by m.2.1.2.2.2 (by decide +kernel)
  generalize eg : zsI (zsI h 196 0 0) 196 11 0 = h2
  have e2 : ∀ a k, a ≠ 196 → h2.2.1 a k = h.2.1 a k := fun a k ha => by rw [← eg, zsI_no (by omega), zsI_no (by omega)]
  have e3 : ∀ k, k ≠ 0 → k ≠ 11 → h2.2.1 196 k = h.2.1 196 k := fun k w1 w2 => by rw [← eg, zsI_no (by omega), zsI_no (by omega)]
  have h1 : h2.1 = hh_487.1 := by rw [← eg]; exact m.2.1.2.2.2
  have hA : lPA A c h2 := by rw [← eg]; exact (m.pa z.1.1).gd
  have B : cI A ≠ 0 → bgM A s h2 := fun ne => by rw [← eg]; exact (z.bm m ne).gd
  have er : h2.2.2.2.1 = h.2.2.2.1 := by rw [← eg]; rfl
  have q15 : h2.2.2.2.1 196 15 = some 199 := by rw [er]; exact m.r15
  have q17 : h2.2.2.2.1 196 17 = some 201 := by rw [er]; exact m.mw.2.1
  have z196 : zsh h2 196 = some (12, 39) := zsh_by h1 (by decide +kernel)
  have z199 : zsh h2 199 = some (14, 363) := zsh_by h1 (by decide +kernel)
  have z201 : zsh h2 201 = some (14, 76) := zsh_by h1 (by decide +kernel)
  have M : nMo A s 201 0 h2 := (z.lm m).1.1.fr (fun k => e2 _ _ (by decide))
  have hT := z.1.2.1
  have hB := z.1.2.2
  have hI := z.1.1.1
  have hN := z.2.1.1
  have k0 : (0 : Int32).toInt = 0 := by decide
  obtain ⟨b1, b2, b3, b4, b5⟩ := hI.2.2.1
  show zPn N none d mX12_surest (0, [(0, .inr (.inr (some 196))), (1, .inl x)], [], h) _
  refine pa_aload_n (pc' := 1) dX12_surest_0 rfl rfl ?_
  refine pa_callv (pc' := 4) (vs := []) (rest := []) dX12_surest_1 ml_12_167 (by decide) rfl rfl rfl (fun d' _ => (m_good s196)) (fun v h3 hq => ?_)
  obtain ⟨ev, eh⟩ := hq
  subst ev
  show zPn N none d mX12_surest (4, _, [], h3) _
  rw [eg] at eh
  subst eh
  refine pa_aload_n (pc' := 5) dX12_surest_4 rfl rfl ?_
  refine pa_iload_n (pc' := 6) dX12_surest_5 rfl rfl ?_
  refine pa_callv (pc' := 9) (vs := [.inl x]) (rest := []) dX12_surest_6 ml_12_274 (by decide) rfl rfl rfl (fun d' _ => (M_isBox hA q15 h1)) (fun v g9 hq => ?_)
  obtain ⟨ev, eh⟩ := hq
  subst ev
  rw [eh]
  show zPn N none d mX12_surest (9, _, [.inl (if 0 ≤ (x).toInt ∧ (x).toInt < (cB A:Int) then 1 else 0)], h3) _
  unfold suV2 heV
  by_cases hx : 0 ≤ x.toInt ∧ x.toInt < (cB A : Int)
  case neg =>
    rw [if_neg hx, if_neg hx]
    refine pa_if_t (pc' := 21) dX12_surest_9 (by decide) (by decide) ?_
    refine pa_aload_n (pc' := 22) dX12_surest_21 rfl rfl ?_
    refine pa_iconst (v := nI 1) (pc' := 23) dX12_surest_22 (by decide) rfl ?_
    refine pa_callv (pc' := 26) (vs := [.inl (nI 1)]) (rest := []) dX12_surest_23 ml_12_170 (by decide) rfl rfl rfl (fun d' _ => (m_no z196)) (fun v g hq => ?_)
    obtain ⟨ev, eh⟩ := hq
    subst ev
    show zPn N none d mX12_surest (26, _, [.inl ((-1))], g) _
    refine pa_iret dX12_surest_26 rfl rfl ?_
    rfl
  rw [if_pos hx, if_pos hx]
  obtain ⟨b, rfl, hb, eb⟩ := nI_ob hx.1 hx.2
  have B0 := B (hA.has hb)
  have e6 := M_6 hA (hA.has hb)
  rw [eb]
  refine pa_if_f (pc' := 12) dX12_surest_9 (by decide) (by decide) rfl ?_
  refine pa_aload_n (pc' := 13) dX12_surest_12 rfl rfl ?_
  refine pa_iload_n (pc' := 14) dX12_surest_13 rfl rfl ?_
  refine pa_iconst (v := (-1)) (pc' := 15) dX12_surest_14 (by decide) rfl ?_
  refine pa_callv (pc' := 18) (vs := [.inl (nI b), .inl ((-1))]) (rest := []) dX12_surest_15 ml_12_370 (by decide) rfl rfl rfl (fun d' _ => (M_surest (but := none) B0 e6 hb m1_no)) (fun v g9 hq => ?_)
  obtain ⟨ev, eh⟩ := hq
  subst ev
  show zPn N none d mX12_surest (18, _, [.inl (buV (suF A s b none (cH A)))], g9) _
  refine pa_goto (pc' := 26) dX12_surest_18 (by decide) ?_
  refine pa_iret dX12_surest_26 rfl rfl ?_
  rfl
theorem N_by12 (z : lZ A c s H J g) (m : lMid kk im t g h) : zPa d mX12_by [.inr (.inr (some 196)), .inl x, .inl y] h (fun v _ => v = some (.inl (byV A s x y))) := by
  intro N
  have s196 : zsh h 196 = some (12, 39) := zsh_by m.2.1.2.2.2 (by decide +kernel)
  generalize eg : zsI (zsI h 196 0 0) 196 11 0 = h2
  have e2 : ∀ a k, a ≠ 196 → h2.2.1 a k = h.2.1 a k := fun a k ha => by rw [← eg, zsI_no (by omega), zsI_no (by omega)]
  have e3 : ∀ k, k ≠ 0 → k ≠ 11 → h2.2.1 196 k = h.2.1 196 k := fun k w1 w2 => by rw [← eg, zsI_no (by omega), zsI_no (by omega)]
  have h1 : h2.1 = hh_487.1 := by rw [← eg]; exact m.2.1.2.2.2
  have hA : lPA A c h2 := by rw [← eg]; exact (m.pa z.1.1).gd
  have B : cI A ≠ 0 → bgM A s h2 := fun ne => by rw [← eg]; exact (z.bm m ne).gd
  have er : h2.2.2.2.1 = h.2.2.2.1 := by rw [← eg]; rfl
  have q15 : h2.2.2.2.1 196 15 = some 199 := by rw [er]; exact m.r15
  have q17 : h2.2.2.2.1 196 17 = some 201 := by rw [er]; exact m.mw.2.1
  have z196 : zsh h2 196 = some (12, 39) := zsh_by h1 (by decide +kernel)
  have z199 : zsh h2 199 = some (14, 363) := zsh_by h1 (by decide +kernel)
  have z201 : zsh h2 201 = some (14, 76) := zsh_by h1 (by decide +kernel)
  have M : nMo A s 201 0 h2 := (z.lm m).1.1.fr (fun k => e2 _ _ (by decide))
  have hT := z.1.2.1
  have hB := z.1.2.2
  have hI := z.1.1.1
  have hN := z.2.1.1
  have k0 : (0 : Int32).toInt = 0 := by decide
  obtain ⟨b1, b2, b3, b4, b5⟩ := hI.2.2.1
  show zPn N none d mX12_by (0, [(0, .inr (.inr (some 196))), (1, .inl x), (2, .inl y)], [], h) _
  refine pa_aload_n (pc' := 1) dX12_by_0 rfl rfl ?_
  refine pa_callv (pc' := 4) (vs := []) (rest := []) dX12_by_1 ml_12_167 (by decide) rfl rfl rfl (fun d' _ => (m_good s196)) (fun v h3 hq => ?_)
  obtain ⟨ev, eh⟩ := hq
  subst ev
  show zPn N none d mX12_by (4, _, [], h3) _
  rw [eg] at eh
  subst eh
  refine pa_aload_n (pc' := 5) dX12_by_4 rfl rfl ?_
  refine pa_iload_n (pc' := 6) dX12_by_5 rfl rfl ?_
  refine pa_callv (pc' := 9) (vs := [.inl x]) (rest := []) dX12_by_6 ml_12_274 (by decide) rfl rfl rfl (fun d' _ => (M_isBox hA q15 h1)) (fun v g9 hq => ?_)
  obtain ⟨ev, eh⟩ := hq
  subst ev
  rw [eh]
  show zPn N none d mX12_by (9, _, [.inl (if 0 ≤ (x).toInt ∧ (x).toInt < (cB A:Int) then 1 else 0)], h3) _
  by_cases hx : 0 ≤ x.toInt ∧ x.toInt < (cB A : Int)
  case neg =>
    rw [if_neg hx]
    refine pa_if_f (pc' := 12) dX12_by_9 (by decide) (by decide) rfl ?_
    refine pa_aload_n (pc' := 13) dX12_by_12 rfl rfl ?_
    refine pa_iconst (v := nI 1) (pc' := 14) dX12_by_13 (by decide) rfl ?_
    refine pa_callv (pc' := 17) (vs := [.inl (nI 1)]) (rest := []) dX12_by_14 ml_12_170 (by decide) rfl rfl rfl (fun d' _ => (m_no z196)) (fun v g hq => ?_)
    obtain ⟨ev, eh⟩ := hq
    subst ev
    show zPn N none d mX12_by (17, _, [.inl ((-1))], g) _
    refine pa_iret dX12_by_17 rfl rfl ?_
    unfold byV
    rw [if_neg (fun q => hx q.1)]
  rw [if_pos hx]
  obtain ⟨b, rfl, hb, eb⟩ := nI_ob hx.1 hx.2
  have B0 := B (hA.has hb)
  have e6 := M_6 hA (hA.has hb)
  refine pa_if_t (pc' := 18) dX12_by_9 (by decide) (by decide) ?_
  refine pa_iload_n (pc' := 19) dX12_by_18 rfl rfl ?_
  refine pa_iconst (v := 0) (pc' := 20) dX12_by_19 (by decide) rfl ?_
  refine pa_ldcw (pc' := 23) dX12_by_20 cl_12_340 rfl rfl ?_
  refine pa_calls (pc' := 26) (kd := 1) (vs := [.inl y, .inl 0, .inl 99999]) (rest := []) dX12_by_23 ml_12_149 (.inl rfl) rfl rfl rfl (fun d' _ => in_v) (fun v g9 hq => ?_)
  obtain ⟨ev, eh⟩ := hq
  subst ev
  rw [eh]
  show zPn N none d mX12_by (26, _, [.inl (if ((0 : Int32)).toInt ≤ (y).toInt ∧ (y).toInt ≤ ((99999 : Int32)).toInt then 1 else 0)], h3) _
  rw [k0, show (99999 : Int32).toInt = 99999 by decide]
  by_cases hy : 0 ≤ y.toInt ∧ y.toInt ≤ 99999
  case neg =>
    rw [if_neg hy]
    refine pa_if_f (pc' := 29) dX12_by_26 (by decide) (by decide) rfl ?_
    refine pa_aload_n (pc' := 30) dX12_by_29 rfl rfl ?_
    refine pa_iconst (v := nI 2) (pc' := 31) dX12_by_30 (by decide) rfl ?_
    refine pa_callv (pc' := 34) (vs := [.inl (nI 2)]) (rest := []) dX12_by_31 ml_12_170 (by decide) rfl rfl rfl (fun d' _ => (m_no z196)) (fun v g hq => ?_)
    obtain ⟨ev, eh⟩ := hq
    subst ev
    show zPn N none d mX12_by (34, _, [.inl ((-1))], g) _
    refine pa_iret dX12_by_34 rfl rfl ?_
    unfold byV
    rw [if_neg (fun q => hy q.2)]
  rw [if_pos hy]
  obtain ⟨D, rfl, hD, eD⟩ := nI_ob (n := 100000) hy.1 (by omega)
  have V : byV A s (nI b) (nI D) = byF A s b D (cH A) := by
    unfold byV
    rw [if_pos ⟨hx, hy⟩, eb, eD]
  rw [V]
  have lp : ∀ (N w : Nat) (ls : zL) (g : zH), w ≤ cH A → gF4 h3 g → zget ls 0 = some (.inr (.inr (some 196))) → zget ls 1 = some (.inl (nI b)) → zget ls 2 = some (.inl (nI D)) → zget ls 3 = some (.inl (byF A s b D w)) → zget ls 4 = some (.inl (nI w)) → zPn N none d mX12_by (40, ls, [], g) (fun v _ => v = some (.inl (byF A s b D (cH A)))) := by
    intro N
    induction N with
    | zero => intros; exact zPn.zero
    | succ N ih =>
      intro w ls g hw F hl0 hl1 hl2 hl3 hl4
      have B := B0.fr F
      have s196 := sh_196' B.2.1.1
      have s199 : zsh g 199 = some (14, 363) := zsh_by B.2.1.1 (by decide +kernel)
      have r15 := B.2.1.2.2.2.1.1
      have e6 : g.2.1 199 6 = nI (cH A) := (F.2.2 199 6 (by decide) (by decide) (by decide)).trans e6
      refine pa_iload (pc' := 42) dX12_by_40 hl4 rfl ?_
      refine pa_aload_n (pc' := 43) dX12_by_42 hl0 rfl ?_
      refine pa_getR (pc' := 46) (n := 39) (r := 199) dX12_by_43 fl_12_20 s196 (by decide) r15 rfl ?_
      refine pa_bipush (v := nI 6) (pc' := 48) dX12_by_46 (by decide) rfl ?_
      refine pa_iald (pc' := 49) dX12_by_48 s199 rfl (fun _ => ?_)
      rw [nI_clamp (by omega), e6]
      refine pa_icmp (pc' := 84) (pc2 := 52) dX12_by_49 (by decide) rfl (fun z => ?_) (fun z => ?_)
      · have z := zi_nlt (zk_ge_lt z)
        rw [nI_toInt (by omega), nI_toInt (by omega)] at z
        have ew : w = cH A := by omega
        subst ew
        refine pa_iload_n (pc' := 85) dX12_by_84 hl3 rfl ?_
        refine pa_iret dX12_by_85 rfl rfl ?_
        rfl
      · have z := zi_lt (zk_ge_lt z)
        rw [nI_toInt (by omega), nI_toInt (by omega)] at z
        have hw : w < cH A := by omega
        have nx : ∀ (g' : zH) (r u : Int32), byF A s b D (w + 1) = r ||| u → gF4 h3 g' → ∀ ls', zget ls' 0 = some (.inr (.inr (some 196))) → zget ls' 1 = some (.inl (nI b)) → zget ls' 2 = some (.inl (nI D)) → zget ls' 4 = some (.inl (nI w)) → zPn (N + 1) none d mX12_by (76, ls', [.inl u, .inl r], g') (fun v _ => v = some (.inl (byF A s b D (cH A)))) := fun g' r u er F' ls' l0 l1 l2 l4 => by
          refine pa_ior (pc' := 77) dX12_by_76 rfl rfl ?_
          refine pa_istore_n (pc' := 78) dX12_by_77 (by decide) rfl rfl ?_
          refine pa_iinc (pc' := 81) (v := nI (w + 1)) dX12_by_78 (zget_s1 l4 (by decide) (by simp [zcat])) (by decide) (nI_add w 1) rfl rfl ?_
          refine pa_gotos (pc' := 40) dX12_by_81 (by decide) ?_
          rw [← er]
          exact ih (w + 1) _ g' (by omega) F' (zget_s1 (zget_s1 l0 (by decide) (by simp [zcat])) (by decide) (by simp [zcat])) (zget_s1 (zget_s1 l1 (by decide) (by simp [zcat])) (by decide) (by simp [zcat])) (zget_s1 (zget_s1 l2 (by decide) (by simp [zcat])) (by decide) (by simp [zcat])) (zget_s1 zget_s1e (by decide) (by simp [zcat])) zget_s1e
        refine pa_iload_n (pc' := 53) dX12_by_52 hl3 rfl ?_
        refine pa_aload_n (pc' := 54) dX12_by_53 hl0 rfl ?_
        refine pa_iload (pc' := 56) dX12_by_54 hl4 rfl ?_
        refine pa_iload_n (pc' := 57) dX12_by_56 hl1 rfl ?_
        refine pa_callv (pc' := 60) (vs := [.inl (nI w), .inl (nI b)]) (rest := [.inl (byF A s b D w)]) dX12_by_57 ml_12_367 (by decide) rfl rfl rfl (fun d' _ => (M_bringsOf B hw hb)) (fun v g2 hq => ?_)
        obtain ⟨ev, eh⟩ := hq
        subst ev
        show zPn (N + 1) none d mX12_by (60, _, [.inl (brR A w (brV A s w b)), .inl (byF A s b D w)], g2) _
        have F2 := F.tr eh
        rw [brR_bD]
        refine pa_iconst (v := 0) (pc' := 61) dX12_by_60 (by decide) rfl ?_
        refine pa_iload_n (pc' := 62) dX12_by_61 hl2 rfl ?_
        refine pa_calls (pc' := 65) (kd := 1) (vs := [.inl (dV (bD A s w b)), .inl 0, .inl (nI D)]) (rest := [.inl (byF A s b D w)]) dX12_by_62 ml_12_149 (.inl rfl) rfl rfl rfl (fun d' _ => in_v) (fun v g9 hq => ?_)
        obtain ⟨ev, eh⟩ := hq
        subst ev
        rw [eh]
        show zPn (N + 1) none d mX12_by (65, _, [.inl (if ((0 : Int32)).toInt ≤ ((dV (bD A s w b))).toInt ∧ ((dV (bD A s w b))).toInt ≤ ((nI D)).toInt then 1 else 0), .inl (byF A s b D w)], g2) _
        rw [k0, nI_toInt (n := D) (by omega)]
        cases o : bD A s w b with
        | none =>
          rw [if_neg (fun q => by have := q.1; revert this; decide)]
          refine pa_if_t (pc' := 75) dX12_by_65 (by decide) (by decide) ?_
          refine pa_iconst (v := 0) (pc' := 76) dX12_by_75 (by decide) rfl ?_
          refine nx g2 _ 0 ?_ F2 _ hl0 hl1 hl2 hl4
          show byS A s b D w (byF A s b D w) = _
          unfold byS
          rw [o, Int32.or_zero]
        | some E =>
          have hE := bD_le hI hB hT hN hw hb o
          rw [show dV (some E) = nI E from rfl, nI_toInt (n := E) (by omega)]
          by_cases zz : E ≤ D
          · rw [if_pos (by omega)]
            refine pa_if_f (pc' := 68) dX12_by_65 (by decide) (by decide) rfl ?_
            refine pa_iconst (v := nI 1) (pc' := 69) dX12_by_68 (by decide) rfl ?_
            refine pa_iload (pc' := 71) dX12_by_69 hl4 rfl ?_
            refine pa_ishl (pc' := 72) dX12_by_71 rfl rfl ?_
            refine pa_goto (pc' := 76) dX12_by_72 (by decide) ?_
            refine nx g2 _ _ ?_ F2 _ hl0 hl1 hl2 hl4
            show byS A s b D w (byF A s b D w) = _
            unfold byS
            rw [o]
            dsimp only
            rw [if_pos zz]
          · rw [if_neg (by omega)]
            refine pa_if_t (pc' := 75) dX12_by_65 (by decide) (by decide) ?_
            refine pa_iconst (v := 0) (pc' := 76) dX12_by_75 (by decide) rfl ?_
            refine nx g2 _ 0 ?_ F2 _ hl0 hl1 hl2 hl4
            show byS A s b D w (byF A s b D w) = _
            unfold byS
            rw [o]
            dsimp only
            rw [if_neg zz, Int32.or_zero]
  refine pa_if_t (pc' := 35) dX12_by_26 (by decide) (by decide) ?_
  refine pa_iconst (v := 0) (pc' := 36) dX12_by_35 (by decide) rfl ?_
  refine pa_istore_n (pc' := 37) dX12_by_36 (by decide) rfl rfl ?_
  refine pa_iconst (v := nI 0) (pc' := 38) dX12_by_37 (by decide) rfl ?_
  refine pa_istore (pc' := 40) dX12_by_38 (by decide) rfl rfl ?_
  exact lp _ 0 _ h3 (Nat.zero_le _) gF4.rf rfl rfl rfl rfl rfl
end AN6
/-! answers: sent -/
def snP (A : pA) (b : Nat) (p : Nat × Nat) (q : Nat) : Int32 := if q = 0 then 1 else if q = 1 then (if p.2 = nu A (128 + 4 * b) then 1 else 0) else nI p.1 - nI (nu A (130 + 4 * b))
def snF (A : pA) (s : nS) (q : Nat) : Nat → Int32
  | 0 => 0
  | b + 1 => match s.2.2.2.2.1 b with
    | none => snF A s q b
    | some p => snF A s q b + snP A b p q
def snV (A : pA) (s : nS) (x : Int32) : Int32 := if cI A ≠ 0 ∧ 0 ≤ x.toInt ∧ x.toInt ≤ 2 then snF A s x.toInt.toNat (cB A) else -1
section AN7
variable {t d N c w b : Nat} {h g : zH} {A : pA} {s : nS} {H J : List nS} {x y f o : Int32} {kk : Bool} {im : Int32}
theorem N_sentPart (z : lZ A c s H J h) (hi : lInv t h) (hb : b < cB A) {p : Nat × Nat} (o : s.2.2.2.2.1 b = some p) {q : Nat} (hq : q ≤ 2) : zPa d mX11_sentPart [.inr (.inr (some 0)), .inl (nI b), .inl (nI q)] h (fun v g => v = some (.inl (snP A b p q)) ∧ g = h) := by
  intro N
  have h1 := hi.2.2.2.2.1
  have hA := z.1.1
  have hT := z.1.2.1
  have hB := z.1.2.2
  have hI := hA.1
  have hN := z.2.1.1
  have K := hA.2.2.2.1
  have hc2 : c = 2 ∨ c = 42 := hA.2.1
  obtain ⟨b1, b2, b3, b4, b5⟩ := hI.2.2.1
  have s0 : zsh h 0 = some (11, 16) := zsh_by h1 (by decide +kernel)
  obtain ⟨sc, sc1, sc2, sc4, sc5, scw, scb⟩ := cSh hA.2.1 h1
  obtain ⟨c9, c12, c13, cw, cb⟩ := cRf_of hi.1 hA.2.1
  have S := hi.nw
  obtain ⟨⟨s86, s87, s88, s89, s90, s91⟩, r87, r88, r89, r90, r91⟩ := S.o86
  have r3 := hA.2.2.1
  have r6 := S.2.1
  obtain ⟨n1, n2, n3, n4⟩ := z.2.2.1.1
  have oc := ((hN.2.2 b hb).2.2 p o)
  have nb := nSn_le s (cB A)
  have q1 : h.2.1 89 b = nI p.1 := by rw [show h.2.1 89 b = sDy (s.2.2.2.2.1 b) from (n4 b hb).1, o]; rfl
  have q2 : h.2.1 90 b = nI p.2 := by rw [show h.2.1 90 b = sGo (s.2.2.2.2.1 b) from (n4 b hb).2.1, o]; rfl
  obtain ⟨-, bto, -, bdy, bv⟩ := num_box hI hB hT hb
  have e1 := K.boto hT hB hI hb
  have e3 : h.2.1 (c + 24 + b) 3 = nI (nu A (130 + 4 * b)) := by rw [K.bo hT hI hb (by decide), bv 3 (by decide), show 127 + 4 * b + 3 = 130 + 4 * b by omega]
  have sb := scb b (by omega)
  have rb := cb b (by omega)
  have hq : q = 0 ∨ q = 1 ∨ q = 2 := by omega
  show zPn N none d mX11_sentPart (0, [(0, .inr (.inr (some 0))), (1, .inl (nI b)), (2, .inl (nI q))], [], h) _
  rcases hq with rfl | rfl | rfl
  · refine pa_iload_n (pc' := 1) dX11_sentPart_0 rfl rfl ?_
    refine pa_if_f (pc' := 4) dX11_sentPart_1 (by decide) (by decide) rfl ?_
    refine pa_iconst (v := 1) (pc' := 5) dX11_sentPart_4 (by decide) rfl ?_
    refine pa_iret dX11_sentPart_5 rfl rfl ?_
    exact ⟨rfl, rfl⟩
  · refine pa_iload_n (pc' := 1) dX11_sentPart_0 rfl rfl ?_
    refine pa_if_t (pc' := 6) dX11_sentPart_1 (by decide) (by decide) ?_
    refine pa_iload_n (pc' := 7) dX11_sentPart_6 rfl rfl ?_
    refine pa_iconst (v := nI 1) (pc' := 8) dX11_sentPart_7 (by decide) rfl ?_
    refine pa_icmp_f (pc' := 11) dX11_sentPart_8 (by decide) (by decide) rfl ?_
    refine pa_aload_n (pc' := 12) dX11_sentPart_11 rfl rfl ?_
    refine pa_getR (pc' := 15) (n := 16) (r := 86) dX11_sentPart_12 fl_11_42 s0 (by decide) r6 rfl ?_
    refine pa_getR (pc' := 18) (n := 7) (r := 90) dX11_sentPart_15 fl_11_171 s86 (by decide) r90 rfl ?_
    refine pa_iload_n (pc' := 19) dX11_sentPart_18 rfl rfl ?_
    refine pa_iald (pc' := 20) dX11_sentPart_19 s90 rfl (fun _ => ?_)
    rw [nI_clamp (by omega), q2]
    refine pa_aload_n (pc' := 21) dX11_sentPart_20 rfl rfl ?_
    refine pa_getR (pc' := 24) (n := 16) (r := c) dX11_sentPart_21 fl_11_23 s0 (by decide) r3 rfl ?_
    refine pa_getR (pc' := 27) (n := 15) (r := c + 5) dX11_sentPart_24 fl_11_150 sc (by decide) c13 rfl ?_
    refine pa_iload_n (pc' := 28) dX11_sentPart_27 rfl rfl ?_
    refine pa_aald (pc' := 29) (r := c + 24 + b) dX11_sentPart_28 sc5 (by decide) (zn_in (by omega) (by omega)) (by rw [nI_clamp (by omega)]; exact rb) rfl ?_
    refine pa_getI (pc' := 32) (n := 4) (v := nI (nu A (128 + 4 * b))) dX11_sentPart_29 fl_11_159 sb (by decide) e1 rfl ?_
    by_cases e : p.2 = nu A (128 + 4 * b)
    · refine pa_icmp_f (pc' := 35) dX11_sentPart_32 (decide_eq_false (not_not_intro (by rw [e]))) (by decide) rfl ?_
      refine pa_iconst (v := 1) (pc' := 36) dX11_sentPart_35 (by decide) rfl ?_
      refine pa_goto (pc' := 40) dX11_sentPart_36 (by decide) ?_
      refine pa_iret dX11_sentPart_40 rfl rfl ?_
      exact ⟨by unfold snP; rw [if_neg (by decide), if_pos rfl, if_pos e], rfl⟩
    · refine pa_icmp_t (pc' := 39) dX11_sentPart_32 (decide_eq_true (fun v => e ((nI_eq (by omega) (by omega)).mp v))) (by decide) ?_
      refine pa_iconst (v := 0) (pc' := 40) dX11_sentPart_39 (by decide) rfl ?_
      refine pa_iret dX11_sentPart_40 rfl rfl ?_
      exact ⟨by unfold snP; rw [if_neg (by decide), if_pos rfl, if_neg e], rfl⟩
  · refine pa_iload_n (pc' := 1) dX11_sentPart_0 rfl rfl ?_
    refine pa_if_t (pc' := 6) dX11_sentPart_1 (by decide) (by decide) ?_
    refine pa_iload_n (pc' := 7) dX11_sentPart_6 rfl rfl ?_
    refine pa_iconst (v := nI 1) (pc' := 8) dX11_sentPart_7 (by decide) rfl ?_
    refine pa_icmp_t (pc' := 41) dX11_sentPart_8 (by decide) (by decide) ?_
    refine pa_aload_n (pc' := 42) dX11_sentPart_41 rfl rfl ?_
    refine pa_getR (pc' := 45) (n := 16) (r := 86) dX11_sentPart_42 fl_11_42 s0 (by decide) r6 rfl ?_
    refine pa_getR (pc' := 48) (n := 7) (r := 89) dX11_sentPart_45 fl_11_168 s86 (by decide) r89 rfl ?_
    refine pa_iload_n (pc' := 49) dX11_sentPart_48 rfl rfl ?_
    refine pa_iald (pc' := 50) dX11_sentPart_49 s89 rfl (fun _ => ?_)
    rw [nI_clamp (by omega), q1]
    refine pa_aload_n (pc' := 51) dX11_sentPart_50 rfl rfl ?_
    refine pa_getR (pc' := 54) (n := 16) (r := c) dX11_sentPart_51 fl_11_23 s0 (by decide) r3 rfl ?_
    refine pa_getR (pc' := 57) (n := 15) (r := c + 5) dX11_sentPart_54 fl_11_150 sc (by decide) c13 rfl ?_
    refine pa_iload_n (pc' := 58) dX11_sentPart_57 rfl rfl ?_
    refine pa_aald (pc' := 59) (r := c + 24 + b) dX11_sentPart_58 sc5 (by decide) (zn_in (by omega) (by omega)) (by rw [nI_clamp (by omega)]; exact rb) rfl ?_
    refine pa_getI (pc' := 62) (n := 4) (v := nI (nu A (130 + 4 * b))) dX11_sentPart_59 fl_11_165 sb (by decide) e3 rfl ?_
    refine pa_isub (pc' := 63) dX11_sentPart_62 rfl rfl ?_
    refine pa_iret dX11_sentPart_63 rfl rfl ?_
    exact ⟨rfl, rfl⟩
theorem N_sent11 (z : lZ A c s H J h) (hi : lInv t h) : zPa d mX11_sent [.inr (.inr (some 0)), .inl x] h (fun v _ => v = some (.inl (snV A s x))) := by
  intro N
  have h1 := hi.2.2.2.2.1
  have hA := z.1.1
  have hT := z.1.2.1
  have hB := z.1.2.2
  have hI := hA.1
  have hN := z.2.1.1
  have K := hA.2.2.2.1
  have hc2 : c = 2 ∨ c = 42 := hA.2.1
  obtain ⟨b1, b2, b3, b4, b5⟩ := hI.2.2.1
  have s0 : zsh h 0 = some (11, 16) := zsh_by h1 (by decide +kernel)
  obtain ⟨sc, sc1, sc2, sc4, sc5, scw, scb⟩ := cSh hA.2.1 h1
  obtain ⟨c9, c12, c13, cw, cb⟩ := cRf_of hi.1 hA.2.1
  have S := hi.nw
  obtain ⟨⟨s86, s87, s88, s89, s90, s91⟩, r87, r88, r89, r90, r91⟩ := S.o86
  have r3 := hA.2.2.1
  have r6 := S.2.1
  obtain ⟨n1, n2, n3, n4⟩ := z.2.2.1.1
  have k0 : (0 : Int32).toInt = 0 := by decide
  have e7 := K.2.2.2.2.1
  have ref : ¬ (cI A ≠ 0 ∧ 0 ≤ x.toInt ∧ x.toInt ≤ 2) → ∀ N, zPn N none d mX11_sent (16, [(0, .inr (.inr (some 0))), (1, .inl x)], [], h) (fun v _ => v = some (.inl (snV A s x))) := fun q N => by
    refine pa_aload_n (pc' := 17) dX11_sent_16 rfl rfl ?_
    refine pa_iconst (v := nI 1) (pc' := 18) dX11_sent_17 (by decide) rfl ?_
    refine pa_callv (pc' := 21) (vs := [.inl (nI 1)]) (rest := []) dX11_sent_18 ml_11_98 (by decide) rfl rfl rfl (fun d' _ => (c_ref s0)) (fun v g hq => ?_)
    obtain ⟨ev, eh⟩ := hq
    subst ev
    show zPn N none d mX11_sent (21, _, [.inl ((-1))], g) _
    refine pa_iret dX11_sent_21 rfl rfl ?_
    unfold snV
    rw [if_neg q]
  show zPn N none d mX11_sent (0, [(0, .inr (.inr (some 0))), (1, .inl x)], [], h) _
  refine pa_aload_n (pc' := 1) dX11_sent_0 rfl rfl ?_
  refine pa_callv (pc' := 4) (vs := []) (rest := []) dX11_sent_1 ml_11_222 (by decide) rfl rfl rfl (fun d' _ => (N_hasPost hA h1)) (fun v g9 hq => ?_)
  obtain ⟨ev, eh⟩ := hq
  subst ev
  rw [eh]
  show zPn N none d mX11_sent (4, _, [.inl (if cI A = 0 then 0 else 1)], h) _
  by_cases z0 : cI A = 0
  · rw [if_pos z0]
    refine pa_if_t (pc' := 16) dX11_sent_4 (by decide) (by decide) ?_
    exact ref (fun q => q.1 z0) _
  rw [if_neg z0]
  refine pa_if_f (pc' := 7) dX11_sent_4 (by decide) (by decide) rfl ?_
  refine pa_iload_n (pc' := 8) dX11_sent_7 rfl rfl ?_
  refine pa_if (pc' := 16) (pc2 := 11) dX11_sent_8 (by decide) rfl (fun q => ?_) (fun q => ?_)
  · have q := zi_lt q
    rw [k0] at q
    exact ref (fun q' => by omega) _
  have q := zi_nlt q
  rw [k0] at q
  refine pa_iload_n (pc' := 12) dX11_sent_11 rfl rfl ?_
  refine pa_iconst (v := nI 2) (pc' := 13) dX11_sent_12 (by decide) rfl ?_
  refine pa_icmp (pc' := 22) (pc2 := 16) dX11_sent_13 (by decide) rfl (fun u => ?_) (fun u => ?_)
  rotate_left
  · have u := zi_gt (zk_le_gt u)
    rw [nI_toInt (by omega)] at u
    exact ref (fun q' => by omega) _
  have u := zi_ngt (zk_le_gt u)
  rw [nI_toInt (by omega)] at u
  clear ref
  obtain ⟨n, rfl, hn, en⟩ := nI_ob (n := 3) (show 0 ≤ x.toInt by omega) (by omega)
  have V : snV A s (nI n) = snF A s n (cB A) := by
    unfold snV
    rw [if_pos ⟨z0, by omega, by omega⟩, en]
  rw [V]
  have B := z.bc hi z0
  have lp : ∀ (N b : Nat) (ls : zL), b ≤ cB A → zget ls 0 = some (.inr (.inr (some 0))) → zget ls 1 = some (.inl (nI n)) → zget ls 2 = some (.inl (snF A s n b)) → zget ls 3 = some (.inl (nI b)) → zPn N none d mX11_sent (26, ls, [], h) (fun v _ => v = some (.inl (snF A s n (cB A)))) := by
    intro N
    induction N with
    | zero => intros; exact zPn.zero
    | succ N ih =>
      intro b ls hb hl0 hl1 hl2 hl3
      refine pa_iload_n (pc' := 27) dX11_sent_26 hl3 rfl ?_
      refine pa_aload_n (pc' := 28) dX11_sent_27 hl0 rfl ?_
      refine pa_getR (pc' := 31) (n := 16) (r := c) dX11_sent_28 fl_11_23 s0 (by decide) r3 rfl ?_
      refine pa_getI (pc' := 34) (n := 15) (v := nI (cB A)) dX11_sent_31 fl_11_239 sc (by decide) e7 rfl ?_
      refine pa_icmp (pc' := 63) (pc2 := 37) dX11_sent_34 (by decide) rfl (fun z9 => ?_) (fun z9 => ?_)
      · have z9 := zi_nlt (zk_ge_lt z9)
        rw [nI_toInt (by omega), nI_toInt (by omega)] at z9
        have eb : b = cB A := by omega
        subst eb
        refine pa_aload_n (pc' := 64) dX11_sent_63 hl0 rfl ?_
        refine pa_iload_n (pc' := 65) dX11_sent_64 hl2 rfl ?_
        refine pa_callv (pc' := 68) (vs := [.inl (snF A s n (cB A))]) (rest := []) dX11_sent_65 ml_11_112 (by decide) rfl rfl rfl (fun d' _ => (c_gra s0)) (fun v g9 hq => ?_)
        obtain ⟨ev, eh⟩ := hq
        subst ev
        show zPn (N + 1) none d mX11_sent (68, _, [.inl ((snF A s n (cB A)))], g9) _
        refine pa_iret dX11_sent_68 rfl rfl ?_
        rfl
      · have z9 := zi_lt (zk_ge_lt z9)
        rw [nI_toInt (by omega), nI_toInt (by omega)] at z9
        have hb : b < cB A := by omega
        refine pa_aload_n (pc' := 38) dX11_sent_37 hl0 rfl ?_
        refine pa_getR (pc' := 41) (n := 16) (r := 86) dX11_sent_38 fl_11_42 s0 (by decide) r6 rfl ?_
        refine pa_iload_n (pc' := 42) dX11_sent_41 hl3 rfl ?_
        refine pa_callv (pc' := 45) (vs := [.inl (nI b)]) (rest := []) dX11_sent_42 ml_11_242 (by decide) rfl rfl rfl (fun d' _ => (N_isSent B hb)) (fun v g9 hq => ?_)
        obtain ⟨ev, eh⟩ := hq
        subst ev
        rw [eh]
        show zPn (N + 1) none d mX11_sent (45, _, [.inl (match s.2.2.2.2.1 b with | some _ => 1 | none => 0)], h) _
        cases o : s.2.2.2.2.1 b with
        | none =>
          refine pa_if_t (pc' := 57) dX11_sent_45 (show zcond .eq (0 : Int32) 0 = true by decide) (by decide) ?_
          refine pa_iinc (pc' := 60) (v := nI (b + 1)) dX11_sent_57 hl3 (by decide) (nI_add b 1) rfl rfl ?_
          refine pa_gotos (pc' := 26) dX11_sent_60 (by decide) ?_
          refine ih (b + 1) _ (by omega) (zget_s1 hl0 (by decide) (by simp [zcat])) (zget_s1 hl1 (by decide) (by simp [zcat])) ?_ zget_s1e
          have es : snF A s n (b + 1) = snF A s n b := by
            show (match s.2.2.2.2.1 b with | none => snF A s n b | some p => snF A s n b + snP A b p n) = _
            rw [o]
          rw [es]
          exact (zget_s1 hl2 (by decide) (by simp [zcat]))
        | some p =>
          refine pa_if_f (pc' := 48) dX11_sent_45 (show zcond .eq (1 : Int32) 0 = false by decide) (by decide) rfl ?_
          refine pa_iload_n (pc' := 49) dX11_sent_48 hl2 rfl ?_
          refine pa_aload_n (pc' := 50) dX11_sent_49 hl0 rfl ?_
          refine pa_iload_n (pc' := 51) dX11_sent_50 hl3 rfl ?_
          refine pa_iload_n (pc' := 52) dX11_sent_51 hl1 rfl ?_
          refine pa_callv (pc' := 55) (vs := [.inl (nI b), .inl (nI n)]) (rest := [.inl (snF A s n b)]) dX11_sent_52 ml_11_245 (by decide) rfl rfl rfl (fun d' _ => (N_sentPart z hi hb o (by omega))) (fun v g9 hq => ?_)
          obtain ⟨ev, eh⟩ := hq
          subst ev
          rw [eh]
          show zPn (N + 1) none d mX11_sent (55, _, [.inl (snP A b p n), .inl (snF A s n b)], h) _
          refine pa_iadd (pc' := 56) dX11_sent_55 rfl rfl ?_
          refine pa_istore_n (pc' := 57) dX11_sent_56 (by decide) rfl rfl ?_
          refine pa_iinc (pc' := 60) (v := nI (b + 1)) dX11_sent_57 (zget_s1 hl3 (by decide) (by simp [zcat])) (by decide) (nI_add b 1) rfl rfl ?_
          refine pa_gotos (pc' := 26) dX11_sent_60 (by decide) ?_
          refine ih (b + 1) _ (by omega) (zget_s1 (zget_s1 hl0 (by decide) (by simp [zcat])) (by decide) (by simp [zcat])) (zget_s1 (zget_s1 hl1 (by decide) (by simp [zcat])) (by decide) (by simp [zcat])) ?_ zget_s1e
          have es : snF A s n (b + 1) = snF A s n b + snP A b p n := by
            show (match s.2.2.2.2.1 b with | none => snF A s n b | some p => snF A s n b + snP A b p n) = _
            rw [o]
          rw [es]
          exact (zget_s1 zget_s1e (by decide) (by simp [zcat]))
  refine pa_iconst (v := 0) (pc' := 23) dX11_sent_22 (by decide) rfl ?_
  refine pa_istore_n (pc' := 24) dX11_sent_23 (by decide) rfl rfl ?_
  refine pa_iconst (v := nI 0) (pc' := 25) dX11_sent_24 (by decide) rfl ?_
  refine pa_istore_n (pc' := 26) dX11_sent_25 (by decide) rfl rfl ?_
  exact lp _ 0 _ (Nat.zero_le _) rfl rfl rfl rfl
theorem M_hasB (z : lZ A c s H J g) (m : lMid kk im t g h) : (cI A = 0 ∧ h.2.1 196 14 = 0) ∨ (cI A ≠ 0 ∧ h.2.1 196 14 = 1) := by
  rcases (m.pa z.1.1).2.2.2.2 with ⟨a, e⟩ | ⟨a, e, -⟩
  · exact .inl ⟨by rw [e]; rfl, a⟩
  · exact .inr ⟨e, a⟩
theorem M_7 (hA : lPA A c h) (z : cI A ≠ 0) : h.2.1 199 7 = nI (cB A) := by
  rcases hA.2.2.2.2 with ⟨-, e⟩ | ⟨-, -, K⟩
  · exact absurd (by rw [e]; rfl) z
  · exact K.2.2.2.2.2.1
theorem N_sent12 (z : lZ A c s H J g) (m : lMid kk im t g h) : zPa d mX12_sent [.inr (.inr (some 196)), .inl x] h (fun v _ => v = some (.inl (snV A s x))) := by
  intro N
  have hp := M_hasB z m
  have s196 : zsh h 196 = some (12, 39) := zsh_by m.2.1.2.2.2 (by decide +kernel)
  generalize eg : zsI (zsI h 196 0 0) 196 11 0 = h2
  have e2 : ∀ a k, a ≠ 196 → h2.2.1 a k = h.2.1 a k := fun a k ha => by rw [← eg, zsI_no (by omega), zsI_no (by omega)]
  have e3 : ∀ k, k ≠ 0 → k ≠ 11 → h2.2.1 196 k = h.2.1 196 k := fun k w1 w2 => by rw [← eg, zsI_no (by omega), zsI_no (by omega)]
  have h1 : h2.1 = hh_487.1 := by rw [← eg]; exact m.2.1.2.2.2
  have hA : lPA A c h2 := by rw [← eg]; exact (m.pa z.1.1).gd
  have B : cI A ≠ 0 → bgM A s h2 := fun ne => by rw [← eg]; exact (z.bm m ne).gd
  have er : h2.2.2.2.1 = h.2.2.2.1 := by rw [← eg]; rfl
  have q15 : h2.2.2.2.1 196 15 = some 199 := by rw [er]; exact m.r15
  have q17 : h2.2.2.2.1 196 17 = some 201 := by rw [er]; exact m.mw.2.1
  have z196 : zsh h2 196 = some (12, 39) := zsh_by h1 (by decide +kernel)
  have z199 : zsh h2 199 = some (14, 363) := zsh_by h1 (by decide +kernel)
  have z201 : zsh h2 201 = some (14, 76) := zsh_by h1 (by decide +kernel)
  have M : nMo A s 201 0 h2 := (z.lm m).1.1.fr (fun k => e2 _ _ (by decide))
  have hT := z.1.2.1
  have hB := z.1.2.2
  have hI := z.1.1.1
  have hN := z.2.1.1
  have k0 : (0 : Int32).toInt = 0 := by decide
  obtain ⟨b1, b2, b3, b4, b5⟩ := hI.2.2.1
  rw [← e3 14 (by decide) (by decide)] at hp
  show zPn N none d mX12_sent (0, [(0, .inr (.inr (some 196))), (1, .inl x)], [], h) _
  refine pa_aload_n (pc' := 1) dX12_sent_0 rfl rfl ?_
  refine pa_callv (pc' := 4) (vs := []) (rest := []) dX12_sent_1 ml_12_167 (by decide) rfl rfl rfl (fun d' _ => (m_good s196)) (fun v h3 hq => ?_)
  obtain ⟨ev, eh⟩ := hq
  subst ev
  show zPn N none d mX12_sent (4, _, [], h3) _
  rw [eg] at eh
  subst eh
  rcases hp with ⟨z0, hp⟩ | ⟨z0, hp⟩
  · refine pa_aload_n (pc' := 5) dX12_sent_4 rfl rfl ?_
    refine pa_getI (pc' := 8) (n := 39) (v := 0) dX12_sent_5 fl_12_180 z196 (by decide) hp rfl ?_
    refine pa_if_t (pc' := 20) dX12_sent_8 (by decide) (by decide) ?_
    refine pa_aload_n (pc' := 21) dX12_sent_20 rfl rfl ?_
    refine pa_iconst (v := nI 1) (pc' := 22) dX12_sent_21 (by decide) rfl ?_
    refine pa_callv (pc' := 25) (vs := [.inl (nI 1)]) (rest := []) dX12_sent_22 ml_12_170 (by decide) rfl rfl rfl (fun d' _ => (m_no z196)) (fun v g hq => ?_)
    obtain ⟨ev, eh⟩ := hq
    subst ev
    show zPn N none d mX12_sent (25, _, [.inl ((-1))], g) _
    refine pa_iret dX12_sent_25 rfl rfl ?_
    unfold snV
    rw [if_neg (fun q => q.1 z0)]
  refine pa_aload_n (pc' := 5) dX12_sent_4 rfl rfl ?_
  refine pa_getI (pc' := 8) (n := 39) (v := 1) dX12_sent_5 fl_12_180 z196 (by decide) hp rfl ?_
  refine pa_if_f (pc' := 11) dX12_sent_8 (by decide) (by decide) rfl ?_
  refine pa_iload_n (pc' := 12) dX12_sent_11 rfl rfl ?_
  refine pa_iconst (v := 0) (pc' := 13) dX12_sent_12 (by decide) rfl ?_
  refine pa_iconst (v := 2) (pc' := 14) dX12_sent_13 (by decide) rfl ?_
  refine pa_calls (pc' := 17) (kd := 1) (vs := [.inl x, .inl 0, .inl 2]) (rest := []) dX12_sent_14 ml_12_149 (.inl rfl) rfl rfl rfl (fun d' _ => in_v) (fun v g9 hq => ?_)
  obtain ⟨ev, eh⟩ := hq
  subst ev
  rw [eh]
  show zPn N none d mX12_sent (17, _, [.inl (if ((0 : Int32)).toInt ≤ (x).toInt ∧ (x).toInt ≤ ((2 : Int32)).toInt then 1 else 0)], h3) _
  rw [k0, show (2 : Int32).toInt = 2 by decide]
  by_cases hy : 0 ≤ x.toInt ∧ x.toInt ≤ 2
  case neg =>
    rw [if_neg hy]
    refine pa_if_f (pc' := 20) dX12_sent_17 (by decide) (by decide) rfl ?_
    refine pa_aload_n (pc' := 21) dX12_sent_20 rfl rfl ?_
    refine pa_iconst (v := nI 1) (pc' := 22) dX12_sent_21 (by decide) rfl ?_
    refine pa_callv (pc' := 25) (vs := [.inl (nI 1)]) (rest := []) dX12_sent_22 ml_12_170 (by decide) rfl rfl rfl (fun d' _ => (m_no z196)) (fun v g hq => ?_)
    obtain ⟨ev, eh⟩ := hq
    subst ev
    show zPn N none d mX12_sent (25, _, [.inl ((-1))], g) _
    refine pa_iret dX12_sent_25 rfl rfl ?_
    unfold snV
    rw [if_neg (fun q => hy q.2)]
  rw [if_pos hy]
  obtain ⟨n, rfl, hn, en⟩ := nI_ob (n := 3) hy.1 (by omega)
  have V : snV A s (nI n) = snF A s n (cB A) := by
    unfold snV
    rw [if_pos ⟨z0, by omega, by omega⟩, en]
  rw [V]
  have B := B z0
  have e7 := M_7 hA z0
  have lp : ∀ (N b : Nat) (ls : zL), b ≤ cB A → zget ls 0 = some (.inr (.inr (some 196))) → zget ls 1 = some (.inl (nI n)) → zget ls 2 = some (.inl (snF A s n b)) → zget ls 3 = some (.inl (nI b)) → zPn N none d mX12_sent (30, ls, [], h3) (fun v _ => v = some (.inl (snF A s n (cB A)))) := by
    intro N
    induction N with
    | zero => intros; exact zPn.zero
    | succ N ih =>
      intro b ls hb hl0 hl1 hl2 hl3
      refine pa_iload_n (pc' := 31) dX12_sent_30 hl3 rfl ?_
      refine pa_aload_n (pc' := 32) dX12_sent_31 hl0 rfl ?_
      refine pa_getR (pc' := 35) (n := 39) (r := 199) dX12_sent_32 fl_12_20 z196 (by decide) q15 rfl ?_
      refine pa_bipush (v := nI 7) (pc' := 37) dX12_sent_35 (by decide) rfl ?_
      refine pa_iald (pc' := 38) dX12_sent_37 z199 rfl (fun _ => ?_)
      rw [nI_clamp (by omega), e7]
      refine pa_icmp (pc' := 124) (pc2 := 41) dX12_sent_38 (by decide) rfl (fun z9 => ?_) (fun z9 => ?_)
      · have z9 := zi_nlt (zk_ge_lt z9)
        rw [nI_toInt (by omega), nI_toInt (by omega)] at z9
        have eb : b = cB A := by omega
        subst eb
        refine pa_iload_n (pc' := 125) dX12_sent_124 hl2 rfl ?_
        refine pa_iret dX12_sent_125 rfl rfl ?_
        rfl
      · have z9 := zi_lt (zk_ge_lt z9)
        rw [nI_toInt (by omega), nI_toInt (by omega)] at z9
        have hb : b < cB A := by omega
        have d1 : h3.2.1 201 (12 + b) = tDy (s.2.2.2.2.1 b) := by rw [← (M.2.2.2 b hb).1, Nat.zero_add]
        have d2 : h3.2.1 201 (20 + b) = tGo (s.2.2.2.2.1 b) := by rw [← (M.2.2.2 b hb).2.1, Nat.zero_add]
        obtain ⟨-, bto, -, bdy, bv⟩ := num_box hI hB hT hb
        refine pa_aload_n (pc' := 42) dX12_sent_41 hl0 rfl ?_
        refine pa_getR (pc' := 45) (n := 39) (r := 201) dX12_sent_42 fl_12_26 z196 (by decide) q17 rfl ?_
        refine pa_bipush (v := nI 12) (pc' := 47) dX12_sent_45 (by decide) rfl ?_
        refine pa_iload_n (pc' := 48) dX12_sent_47 hl3 rfl ?_
        refine pa_iadd (pc' := 49) (v := nI (12 + b)) dX12_sent_48 (nI_add _ _) rfl ?_
        refine pa_iald (pc' := 50) dX12_sent_49 z201 rfl (fun _ => ?_)
        rw [nI_clamp (by omega), d1]
        cases o : s.2.2.2.2.1 b with
        | none =>
          have es : snF A s n (b + 1) = snF A s n b := by
            show (match s.2.2.2.2.1 b with | none => snF A s n b | some p => snF A s n b + snP A b p n) = _
            rw [o]
          refine pa_if_f (pc' := 53) dX12_sent_50 (show zcond .ne (0 : Int32) 0 = false by decide) (by decide) rfl ?_
          refine pa_goto (pc' := 118) dX12_sent_53 (by decide) ?_
          refine pa_iinc (pc' := 121) (v := nI (b + 1)) dX12_sent_118 hl3 (by decide) (nI_add b 1) rfl rfl ?_
          refine pa_gotos (pc' := 30) dX12_sent_121 (by decide) ?_
          refine ih (b + 1) _ (by omega) (zget_s1 hl0 (by decide) (by simp [zcat])) (zget_s1 hl1 (by decide) (by simp [zcat])) ?_ zget_s1e
          rw [es]
          exact (zget_s1 hl2 (by decide) (by simp [zcat]))
        | some p =>
          have oc := ((hN.2.2 b hb).2.2 p o)
          have nb := nSn_le s (cB A)
          rw [o] at d1 d2
          have d1 : h3.2.1 201 (12 + b) = nI (p.1 + 1) := d1
          have d2 : h3.2.1 201 (20 + b) = nI (p.2 + 1) := d2
          have es : snF A s n (b + 1) = snF A s n b + snP A b p n := by
            show (match s.2.2.2.2.1 b with | none => snF A s n b | some p => snF A s n b + snP A b p n) = _
            rw [o]
          have fin : ∀ u : Int32, snP A b p n = u → zPn (N + 1) none d mX12_sent (116, ls, [.inl u, .inl (snF A s n b)], h3) (fun v _ => v = some (.inl (snF A s n (cB A)))) := fun u eu => by
            refine pa_iadd (pc' := 117) dX12_sent_116 rfl rfl ?_
            refine pa_istore_n (pc' := 118) dX12_sent_117 (by decide) rfl rfl ?_
            refine pa_iinc (pc' := 121) (v := nI (b + 1)) dX12_sent_118 (zget_s1 hl3 (by decide) (by simp [zcat])) (by decide) (nI_add b 1) rfl rfl ?_
            refine pa_gotos (pc' := 30) dX12_sent_121 (by decide) ?_
            refine ih (b + 1) _ (by omega) (zget_s1 (zget_s1 hl0 (by decide) (by simp [zcat])) (by decide) (by simp [zcat])) (zget_s1 (zget_s1 hl1 (by decide) (by simp [zcat])) (by decide) (by simp [zcat])) ?_ zget_s1e
            rw [es, eu]
            exact (zget_s1 zget_s1e (by decide) (by simp [zcat]))
          have nz : ¬ (tDy (some p) = 0) := fun q => by
            have := congrArg Int32.toInt q
            rw [show tDy (some p) = nI (p.1 + 1) from rfl, nI_toInt (by omega), k0] at this
            omega
          refine pa_if_t (pc' := 56) dX12_sent_50 (decide_eq_true nz) (by decide) ?_
          refine pa_iload_n (pc' := 57) dX12_sent_56 hl2 rfl ?_
          refine pa_iload_n (pc' := 58) dX12_sent_57 hl1 rfl ?_
          have hn3 : n = 0 ∨ n = 1 ∨ n = 2 := by omega
          rcases hn3 with rfl | rfl | rfl
          · refine pa_if_f (pc' := 61) dX12_sent_58 (by decide) (by decide) rfl ?_
            refine pa_iconst (v := 1) (pc' := 62) dX12_sent_61 (by decide) rfl ?_
            refine pa_goto (pc' := 116) dX12_sent_62 (by decide) ?_
            exact fin _ rfl
          · refine pa_if_t (pc' := 65) dX12_sent_58 (by decide) (by decide) ?_
            refine pa_iload_n (pc' := 66) dX12_sent_65 hl1 rfl ?_
            refine pa_iconst (v := nI 1) (pc' := 67) dX12_sent_66 (by decide) rfl ?_
            refine pa_icmp_f (pc' := 70) dX12_sent_67 (by decide) (by decide) rfl ?_
            refine pa_aload_n (pc' := 71) dX12_sent_70 hl0 rfl ?_
            refine pa_getR (pc' := 74) (n := 39) (r := 201) dX12_sent_71 fl_12_26 z196 (by decide) q17 rfl ?_
            refine pa_bipush (v := nI 20) (pc' := 76) dX12_sent_74 (by decide) rfl ?_
            refine pa_iload_n (pc' := 77) dX12_sent_76 hl3 rfl ?_
            refine pa_iadd (pc' := 78) (v := nI (20 + b)) dX12_sent_77 (nI_add _ _) rfl ?_
            refine pa_iald (pc' := 79) dX12_sent_78 z201 rfl (fun _ => ?_)
            rw [nI_clamp (by omega), d2]
            refine pa_iconst (v := nI 1) (pc' := 80) dX12_sent_79 (by decide) rfl ?_
            refine pa_isub (pc' := 81) (v := nI ((p.2 + 1) - 1)) dX12_sent_80 (nI_sub (by omega)) rfl ?_
            refine pa_aload_n (pc' := 82) dX12_sent_81 hl0 rfl ?_
            refine pa_iload_n (pc' := 83) dX12_sent_82 hl3 rfl ?_
            refine pa_iconst (v := nI 1) (pc' := 84) dX12_sent_83 (by decide) rfl ?_
            refine pa_callv (pc' := 87) (vs := [.inl (nI b), .inl (nI 1)]) (rest := [.inl (nI ((p.2 + 1) - 1)), .inl (snF A s 1 b)]) dX12_sent_84 ml_12_262 (by decide) rfl rfl rfl (fun d' _ => (M_ofBoxA (j := 1) B hb (by decide))) (fun v g9 hq => ?_)
            obtain ⟨ev, eh⟩ := hq
            subst ev
            rw [eh]
            show zPn (N + 1) none d mX12_sent (87, _, [.inl (vA A (127 + 4 * b + 1)), .inl (nI ((p.2 + 1) - 1)), .inl (snF A s 1 b)], h3) _
            rw [bv 1 (by decide), show 127 + 4 * b + 1 = 128 + 4 * b by omega, Nat.add_sub_cancel]
            by_cases e : p.2 = nu A (128 + 4 * b)
            · refine pa_icmp_f (pc' := 90) dX12_sent_87 (decide_eq_false (not_not_intro (by rw [e]))) (by decide) rfl ?_
              refine pa_iconst (v := 1) (pc' := 91) dX12_sent_90 (by decide) rfl ?_
              refine pa_goto (pc' := 116) dX12_sent_91 (by decide) ?_
              exact fin _ (by unfold snP; rw [if_neg (by decide), if_pos rfl, if_pos e])
            · refine pa_icmp_t (pc' := 94) dX12_sent_87 (decide_eq_true (fun v => e ((nI_eq (by omega) (by omega)).mp v))) (by decide) ?_
              refine pa_iconst (v := 0) (pc' := 95) dX12_sent_94 (by decide) rfl ?_
              refine pa_goto (pc' := 116) dX12_sent_95 (by decide) ?_
              exact fin _ (by unfold snP; rw [if_neg (by decide), if_pos rfl, if_neg e])
          · refine pa_if_t (pc' := 65) dX12_sent_58 (by decide) (by decide) ?_
            refine pa_iload_n (pc' := 66) dX12_sent_65 hl1 rfl ?_
            refine pa_iconst (v := nI 1) (pc' := 67) dX12_sent_66 (by decide) rfl ?_
            refine pa_icmp_t (pc' := 98) dX12_sent_67 (by decide) (by decide) ?_
            refine pa_aload_n (pc' := 99) dX12_sent_98 hl0 rfl ?_
            refine pa_getR (pc' := 102) (n := 39) (r := 201) dX12_sent_99 fl_12_26 z196 (by decide) q17 rfl ?_
            refine pa_bipush (v := nI 12) (pc' := 104) dX12_sent_102 (by decide) rfl ?_
            refine pa_iload_n (pc' := 105) dX12_sent_104 hl3 rfl ?_
            refine pa_iadd (pc' := 106) (v := nI (12 + b)) dX12_sent_105 (nI_add _ _) rfl ?_
            refine pa_iald (pc' := 107) dX12_sent_106 z201 rfl (fun _ => ?_)
            rw [nI_clamp (by omega), d1]
            refine pa_iconst (v := nI 1) (pc' := 108) dX12_sent_107 (by decide) rfl ?_
            refine pa_isub (pc' := 109) (v := nI ((p.1 + 1) - 1)) dX12_sent_108 (nI_sub (by omega)) rfl ?_
            refine pa_aload_n (pc' := 110) dX12_sent_109 hl0 rfl ?_
            refine pa_iload_n (pc' := 111) dX12_sent_110 hl3 rfl ?_
            refine pa_iconst (v := nI 3) (pc' := 112) dX12_sent_111 (by decide) rfl ?_
            refine pa_callv (pc' := 115) (vs := [.inl (nI b), .inl (nI 3)]) (rest := [.inl (nI ((p.1 + 1) - 1)), .inl (snF A s 2 b)]) dX12_sent_112 ml_12_262 (by decide) rfl rfl rfl (fun d' _ => (M_ofBoxA (j := 3) B hb (by decide))) (fun v g9 hq => ?_)
            obtain ⟨ev, eh⟩ := hq
            subst ev
            rw [eh]
            show zPn (N + 1) none d mX12_sent (115, _, [.inl (vA A (127 + 4 * b + 3)), .inl (nI ((p.1 + 1) - 1)), .inl (snF A s 2 b)], h3) _
            rw [bv 3 (by decide), show 127 + 4 * b + 3 = 130 + 4 * b by omega, Nat.add_sub_cancel]
            refine pa_isub (pc' := 116) dX12_sent_115 rfl rfl ?_
            exact fin _ rfl
  refine pa_if_t (pc' := 26) dX12_sent_17 (by decide) (by decide) ?_
  refine pa_iconst (v := 0) (pc' := 27) dX12_sent_26 (by decide) rfl ?_
  refine pa_istore_n (pc' := 28) dX12_sent_27 (by decide) rfl rfl ?_
  refine pa_iconst (v := nI 0) (pc' := 29) dX12_sent_28 (by decide) rfl ?_
  refine pa_istore_n (pc' := 30) dX12_sent_29 (by decide) rfl rfl ?_
  exact lp _ 0 _ (Nat.zero_le _) rfl rfl rfl rfl
end AN7
/-! answers: the first that has it -/
/-- the first that has it -/
def fsF (p : Nat → Bool) : Nat → Option Nat
  | 0 => none
  | k + 1 => match fsF p k with
    | some j => some j
    | none => if p k = true then some k else none
def wvO : Option Nat → Int32
  | some k => nI k
  | none => -2
section AN13
variable {p : Nat → Bool} {n k m : Nat}
theorem fsF_s : fsF p (k + 1) = match fsF p k with | some j => some j | none => if p k = true then some k else none := rfl
theorem fsF_in : ∀ n, fsF p n = some k → k < n ∧ p k = true
  | 0, e => nomatch e
  | n + 1, e => by
    rw [fsF_s] at e
    cases o : fsF p n with
    | some j =>
      rw [o] at e
      have e : some j = some k := e
      obtain ⟨q1, q2⟩ := fsF_in n (o.trans e)
      exact ⟨by omega, q2⟩
    | none =>
      rw [o] at e
      have e : (if p n = true then some n else none) = some k := e
      by_cases q : p n = true
      · rw [if_pos q] at e
        have e := Option.some.inj e
        subst e
        exact ⟨by omega, q⟩
      · rw [if_neg q] at e
        exact nomatch e
theorem fsF_no : ∀ n, fsF p n = none → ∀ i, i < n → ¬ p i = true
  | 0, _, i, hi => absurd hi (Nat.not_lt_zero i)
  | n + 1, e, i, hi => by
    rw [fsF_s] at e
    cases o : fsF p n with
    | some j =>
      rw [o] at e
      exact nomatch e
    | none =>
      rw [o] at e
      have e : (if p n = true then some n else none) = none := e
      by_cases z : i = n
      · subst z
        intro q
        rw [if_pos q] at e
        exact nomatch e
      · exact fsF_no n o i (by omega)
theorem fsF_hit (e : fsF p n = none) (q : p n = true) : fsF p (n + 1) = some n := by
  rw [fsF_s, e]
  exact if_pos q
theorem fsF_nx (e : fsF p n = none) (q : ¬ p n = true) : fsF p (n + 1) = none := by
  rw [fsF_s, e]
  exact if_neg q
theorem fsF_st (e : fsF p n = some k) : ∀ m, n ≤ m → fsF p m = some k
  | 0, hm => by
    have : n = 0 := by omega
    rw [← this]
    exact e
  | m + 1, hm => by
    by_cases z : n = m + 1
    · rw [← z]
      exact e
    · rw [fsF_s, fsF_st e m (by omega)]
end AN13
section AN13b
variable {d : Nat} {h : zH}
theorem N_inZ {z q : Int32} : zPa d mX11_isWithin [.inl z, .inl q] h (fun v g => v = some (.inl (if 0 ≤ z.toInt ∧ z.toInt ≤ q.toInt then 1 else 0)) ∧ g = h) := by
  intro N
  have k0 : (0 : Int32).toInt = 0 := by decide
  have e13 : ¬ (0 ≤ z.toInt ∧ z.toInt ≤ q.toInt) → ∀ N, zPn N none d mX11_isWithin (13, [(0, .inl z), (1, .inl q)], [], h) (fun v g => v = some (.inl (if 0 ≤ z.toInt ∧ z.toInt ≤ q.toInt then 1 else 0)) ∧ g = h) := fun w N => by
    refine pa_iconst (v := 0) (pc' := 14) dX11_isWithin_13 (by decide) rfl ?_
    refine pa_iret dX11_isWithin_14 rfl rfl ?_
    exact ⟨by rw [if_neg w], rfl⟩
  show zPn N none d mX11_isWithin (0, [(0, .inl z), (1, .inl q)], [], h) _
  refine pa_iload_n (pc' := 1) dX11_isWithin_0 rfl rfl ?_
  refine pa_if (pc' := 13) (pc2 := 4) dX11_isWithin_1 (by decide) rfl (fun w => ?_) (fun w => ?_)
  · have w := zi_lt w
    rw [k0] at w
    exact e13 (by omega) _
  · have w := zi_nlt w
    rw [k0] at w
    refine pa_iload_n (pc' := 5) dX11_isWithin_4 rfl rfl ?_
    refine pa_iload_n (pc' := 6) dX11_isWithin_5 rfl rfl ?_
    refine pa_icmp (pc' := 13) (pc2 := 9) dX11_isWithin_6 (by decide) rfl (fun u => ?_) (fun u => ?_)
    · have u := lt_i.mp (of_decide_eq_true u)
      exact e13 (by omega) _
    · have u := of_decide_eq_false u
      rw [lt_i] at u
      refine pa_iconst (v := 1) (pc' := 10) dX11_isWithin_9 (by decide) rfl ?_
      refine pa_goto (pc' := 14) dX11_isWithin_10 (by decide) ?_
      refine pa_iret dX11_isWithin_14 rfl rfl ?_
      exact ⟨by rw [if_pos (by omega)], rfl⟩
end AN13b
/-! answers: way -/
/-- joined and open -/
def joF (A : pA) (cl : Int32) (a b k : Nat) : Bool := joinsB A.2.2.2.1 a b k && !clB cl k
def wvM : Option Nat → Int32
  | some k => nI k
  | none => -1
def wyR (A : pA) : Option Nat → Int32
  | some k => nI (dyA A k)
  | none => -2
def twI (A : pA) (x y : Int32) : Prop := ((0 ≤ x.toInt ∧ x.toInt < (cI A : Int)) ∧ 0 ≤ y.toInt ∧ y.toInt < (cI A : Int)) ∧ ¬ x = y
def twB (A : pA) (x y : Int32) : Bool := decide (((0 ≤ x.toInt ∧ x.toInt < (cI A : Int)) ∧ 0 ≤ y.toInt ∧ y.toInt < (cI A : Int)) ∧ ¬ x = y)
theorem twB_iff {A : pA} {x y : Int32} : twB A x y = true ↔ twI A x y := by
  unfold twB twI
  exact decide_eq_true_iff
def wyV (A : pA) (s : nS) (x y : Int32) : Int32 := if twB A x y = true then wyR A (fsF (joF A s.2.1 x.toInt.toNat y.toInt.toNat) (cW A)) else -1
section AN8
variable {t d N c a b k n m : Nat} {h g : zH} {A : pA} {s : nS} {H J : List nS} {x y cl : Int32} {kk : Bool} {im : Int32} {p : Nat → Bool}
theorem joins_ab : joinsB A.2.2.2.1 a b k = true ↔ (wa A k = a ∧ wb A k = b) ∨ (wa A k = b ∧ wb A k = a) := by
  rw [joinsB_iff, Prod.ext_iff, Prod.ext_iff]
  exact Iff.rfl
theorem joF_iff : joF A cl a b k = true ↔ joinsB A.2.2.2.1 a b k = true ∧ ¬ clB cl k = true := by
  unfold joF
  rw [Bool.and_eq_true, Bool.not_eq_true', Bool.not_eq_true]
theorem tU.un (u : tU A) (hi : n < cW A) (hj : m < cW A) (p : joinsB A.2.2.2.1 a b n = true) (q : joinsB A.2.2.2.1 a b m = true) : n = m := by
  refine u n m hi hj (joinsB_iff.mpr ?_)
  have p := joinsB_iff.mp p
  have q := joinsB_iff.mp q
  rcases q with q | q <;> rcases p with p | p <;> rw [p, q] <;> first | exact .inl rfl | exact .inr rfl
theorem wy_no (e : fsF (joinsB A.2.2.2.1 a b) (cW A) = none) : fsF (joF A cl a b) (cW A) = none := by
  cases o : fsF (joF A cl a b) (cW A) with
  | none => rfl
  | some k =>
    obtain ⟨q1, q2⟩ := fsF_in _ o
    exact absurd (joF_iff.mp q2).1 (fsF_no _ e k q1)
theorem wy_cl (u : tU A) (e : fsF (joinsB A.2.2.2.1 a b) (cW A) = some k) (q : clB cl k = true) : fsF (joF A cl a b) (cW A) = none := by
  cases o : fsF (joF A cl a b) (cW A) with
  | none => rfl
  | some j =>
    obtain ⟨q1, q2⟩ := fsF_in _ o
    obtain ⟨p1, p2⟩ := fsF_in _ e
    obtain ⟨r1, r2⟩ := joF_iff.mp q2
    have ej : j = k := u.un q1 p1 r1 p2
    rw [ej] at r2
    exact absurd q r2
theorem wy_op (u : tU A) (e : fsF (joinsB A.2.2.2.1 a b) (cW A) = some k) (q : ¬ clB cl k = true) : fsF (joF A cl a b) (cW A) = some k := by
  obtain ⟨p1, p2⟩ := fsF_in _ e
  cases o : fsF (joF A cl a b) (cW A) with
  | none => exact absurd (joF_iff.mpr ⟨p2, q⟩) (fsF_no _ o k p1)
  | some j =>
    obtain ⟨q1, q2⟩ := fsF_in _ o
    obtain ⟨r1, r2⟩ := joF_iff.mp q2
    rw [u.un q1 p1 r1 p2]
/-- the class -/
theorem N_areTwo (hA : lPA A c h) (h1 : h.1 = hh_487.1) : zPa d mX11_areTwoIslands [.inr (.inr (some 0)), .inl x, .inl y] h (fun v g => v = some (.inl (if twB A x y = true then 1 else 0)) ∧ g = h) := by
  intro N
  show zPn N none d mX11_areTwoIslands (0, [(0, .inr (.inr (some 0))), (1, .inl x), (2, .inl y)], [], h) _
  refine pa_aload_n (pc' := 1) dX11_areTwoIslands_0 rfl rfl ?_
  refine pa_iload_n (pc' := 2) dX11_areTwoIslands_1 rfl rfl ?_
  refine pa_callv (pc' := 5) (vs := [.inl x]) (rest := []) dX11_areTwoIslands_2 ml_11_174 (by decide) rfl rfl rfl (fun d' _ => (N_isI11 hA h1)) (fun v g9 hq => ?_)
  obtain ⟨ev, eh⟩ := hq
  subst ev
  rw [eh]
  show zPn N none d mX11_areTwoIslands (5, _, [.inl (if 0 ≤ (x).toInt ∧ (x).toInt < (cI A:Int) then 1 else 0)], h) _
  by_cases hx : 0 ≤ x.toInt ∧ x.toInt < (cI A : Int)
  case neg =>
    rw [if_neg hx]
    refine pa_if_t (pc' := 25) dX11_areTwoIslands_5 (by decide) (by decide) ?_
    refine pa_iconst (v := 0) (pc' := 26) dX11_areTwoIslands_25 (by decide) rfl ?_
    refine pa_iret dX11_areTwoIslands_26 rfl rfl ?_
    exact ⟨by rw [if_neg (fun q => hx (twB_iff.mp q).1.1)], rfl⟩
  rw [if_pos hx]
  refine pa_if_f (pc' := 8) dX11_areTwoIslands_5 (by decide) (by decide) rfl ?_
  refine pa_aload_n (pc' := 9) dX11_areTwoIslands_8 rfl rfl ?_
  refine pa_iload_n (pc' := 10) dX11_areTwoIslands_9 rfl rfl ?_
  refine pa_callv (pc' := 13) (vs := [.inl y]) (rest := []) dX11_areTwoIslands_10 ml_11_174 (by decide) rfl rfl rfl (fun d' _ => (N_isI11 hA h1)) (fun v g9 hq => ?_)
  obtain ⟨ev, eh⟩ := hq
  subst ev
  rw [eh]
  show zPn N none d mX11_areTwoIslands (13, _, [.inl (if 0 ≤ (y).toInt ∧ (y).toInt < (cI A:Int) then 1 else 0)], h) _
  by_cases hy : 0 ≤ y.toInt ∧ y.toInt < (cI A : Int)
  case neg =>
    rw [if_neg hy]
    refine pa_if_t (pc' := 25) dX11_areTwoIslands_13 (by decide) (by decide) ?_
    refine pa_iconst (v := 0) (pc' := 26) dX11_areTwoIslands_25 (by decide) rfl ?_
    refine pa_iret dX11_areTwoIslands_26 rfl rfl ?_
    exact ⟨by rw [if_neg (fun q => hy (twB_iff.mp q).1.2)], rfl⟩
  rw [if_pos hy]
  refine pa_if_f (pc' := 16) dX11_areTwoIslands_13 (by decide) (by decide) rfl ?_
  refine pa_iload_n (pc' := 17) dX11_areTwoIslands_16 rfl rfl ?_
  refine pa_iload_n (pc' := 18) dX11_areTwoIslands_17 rfl rfl ?_
  by_cases e : x = y
  · refine pa_icmp_t (pc' := 25) dX11_areTwoIslands_18 (decide_eq_true e) (by decide) ?_
    refine pa_iconst (v := 0) (pc' := 26) dX11_areTwoIslands_25 (by decide) rfl ?_
    refine pa_iret dX11_areTwoIslands_26 rfl rfl ?_
    exact ⟨by rw [if_neg (fun q => (twB_iff.mp q).2 e)], rfl⟩
  · refine pa_icmp_f (pc' := 21) dX11_areTwoIslands_18 (decide_eq_false e) (by decide) rfl ?_
    refine pa_iconst (v := 1) (pc' := 22) dX11_areTwoIslands_21 (by decide) rfl ?_
    refine pa_goto (pc' := 26) dX11_areTwoIslands_22 (by decide) ?_
    refine pa_iret dX11_areTwoIslands_26 rfl rfl ?_
    exact ⟨by rw [if_pos (twB_iff.mpr ⟨⟨hx, hy⟩, e⟩)], rfl⟩
theorem N_btw (B : bgC A c s h) (ha : a < 7) (hb : b < 7) : zPa d mX4_wayBetween [.inr (.inr (some c)), .inl (nI a), .inl (nI b)] h (fun v g => v = some (.inl (wvO (fsF (joinsB A.2.2.2.1 a b) (cW A)))) ∧ g = h) := by
  intro N
  obtain ⟨k1, k2, k3, ⟨-, -, -, rc11, rw0⟩, e5, kf⟩ := B.2.1
  have sc := B.sh.1
  have sc3 : zsh h (c + 3) = some (19, 12) := by
    rcases k2 with e | e <;> subst e <;> exact zsh_by k1 (by decide +kernel)
  have lp : ∀ (N j : Nat) (ls : zL), j ≤ cW A → fsF (joinsB A.2.2.2.1 a b) j = none → zget ls 0 = some (.inr (.inr (some c))) → zget ls 1 = some (.inl (nI a)) → zget ls 2 = some (.inl (nI b)) → zget ls 3 = some (.inl (nI j)) → zPn N none d mX4_wayBetween (2, ls, [], h) (fun v g => v = some (.inl (wvO (fsF (joinsB A.2.2.2.1 a b) (cW A)))) ∧ g = h) := by
    intro N
    induction N with
    | zero => intros; exact zPn.zero
    | succ N ih =>
      intro j ls hj hno hl0 hl1 hl2 hl3
      refine pa_iload_n (pc' := 3) dX4_wayBetween_2 hl3 rfl ?_
      refine pa_aload_n (pc' := 4) dX4_wayBetween_3 hl0 rfl ?_
      refine pa_getI (pc' := 7) (n := 15) (v := nI (cW A)) dX4_wayBetween_4 fl_4_62 sc (by decide) e5 rfl ?_
      refine pa_icmp (pc' := 82) (pc2 := 10) dX4_wayBetween_7 (by decide) rfl (fun z => ?_) (fun z => ?_)
      · have z := zi_nlt (zk_ge_lt z)
        rw [nI_toInt (by omega), nI_toInt (by omega)] at z
        have ej : j = cW A := by omega
        subst ej
        refine pa_bipush (v := (-2)) (pc' := 84) dX4_wayBetween_82 (by decide) rfl ?_
        refine pa_iret dX4_wayBetween_84 rfl rfl ?_
        exact ⟨by rw [hno]; rfl, rfl⟩
      · have z := zi_lt (zk_ge_lt z)
        rw [nI_toInt (by omega), nI_toInt (by omega)] at z
        have hj : j < cW A := by omega
        obtain ⟨v1, v2, -, -, la, lb, -⟩ := kf j hj
        have sw := B.2.1.wy (k := j) (by omega)
        have rj := rw0 j (by omega)
        have hit : joinsB A.2.2.2.1 a b j = true → ∀ ls', zget ls' 3 = some (.inl (nI j)) → zPn (N + 1) none d mX4_wayBetween (74, ls', [], h) (fun v g => v = some (.inl (wvO (fsF (joinsB A.2.2.2.1 a b) (cW A)))) ∧ g = h) := fun q ls' l3 => by
          refine pa_iload_n (pc' := 75) dX4_wayBetween_74 l3 rfl ?_
          refine pa_iret dX4_wayBetween_75 rfl rfl ?_
          exact ⟨by rw [fsF_st (fsF_hit hno q) _ hj]; rfl, rfl⟩
        have nx : ¬ joinsB A.2.2.2.1 a b j = true → ∀ ls', zget ls' 0 = some (.inr (.inr (some c))) → zget ls' 1 = some (.inl (nI a)) → zget ls' 2 = some (.inl (nI b)) → zget ls' 3 = some (.inl (nI j)) → zPn (N + 1) none d mX4_wayBetween (76, ls', [], h) (fun v g => v = some (.inl (wvO (fsF (joinsB A.2.2.2.1 a b) (cW A)))) ∧ g = h) := fun q ls' l0 l1 l2 l3 => by
          refine pa_iinc (pc' := 79) (v := nI (j + 1)) dX4_wayBetween_76 l3 (by decide) (nI_add j 1) rfl rfl ?_
          refine pa_gotos (pc' := 2) dX4_wayBetween_79 (by decide) ?_
          exact ih (j + 1) _ (by omega) (fsF_nx hno q) (zget_s1 l0 (by decide) (by simp [zcat])) (zget_s1 l1 (by decide) (by simp [zcat])) (zget_s1 l2 (by decide) (by simp [zcat])) zget_s1e
        have two : ¬ (wa A j = a ∧ wb A j = b) → ∀ ls', zget ls' 0 = some (.inr (.inr (some c))) → zget ls' 1 = some (.inl (nI a)) → zget ls' 2 = some (.inl (nI b)) → zget ls' 3 = some (.inl (nI j)) → zPn (N + 1) none d mX4_wayBetween (48, ls', [], h) (fun v g => v = some (.inl (wvO (fsF (joinsB A.2.2.2.1 a b) (cW A)))) ∧ g = h) := fun q ls' l0 l1 l2 l3 => by
          refine pa_aload_n (pc' := 49) dX4_wayBetween_48 l0 rfl ?_
          refine pa_getR (pc' := 52) (n := 15) (r := c + 3) dX4_wayBetween_49 fl_4_20 sc (by decide) rc11 rfl ?_
          refine pa_iload_n (pc' := 53) dX4_wayBetween_52 l3 rfl ?_
          refine pa_aald (pc' := 54) (r := c + 7 + j) dX4_wayBetween_53 sc3 (by decide) (zn_in (by omega) (by omega)) (by rw [nI_clamp (by omega)]; exact rj) rfl ?_
          refine pa_getI (pc' := 57) (n := 4) (v := nI (wa A j)) dX4_wayBetween_54 fl_4_77 sw (by decide) v1 rfl ?_
          refine pa_iload_n (pc' := 58) dX4_wayBetween_57 l2 rfl ?_
          by_cases e1 : wa A j = b
          · refine pa_icmp_f (pc' := 61) dX4_wayBetween_58 (decide_eq_false (not_not_intro (by rw [e1]))) (by decide) rfl ?_
            refine pa_aload_n (pc' := 62) dX4_wayBetween_61 l0 rfl ?_
            refine pa_getR (pc' := 65) (n := 15) (r := c + 3) dX4_wayBetween_62 fl_4_20 sc (by decide) rc11 rfl ?_
            refine pa_iload_n (pc' := 66) dX4_wayBetween_65 l3 rfl ?_
            refine pa_aald (pc' := 67) (r := c + 7 + j) dX4_wayBetween_66 sc3 (by decide) (zn_in (by omega) (by omega)) (by rw [nI_clamp (by omega)]; exact rj) rfl ?_
            refine pa_getI (pc' := 70) (n := 4) (v := nI (wb A j)) dX4_wayBetween_67 fl_4_80 sw (by decide) v2 rfl ?_
            refine pa_iload_n (pc' := 71) dX4_wayBetween_70 l1 rfl ?_
            by_cases e2 : wb A j = a
            · refine pa_icmp_f (pc' := 74) dX4_wayBetween_71 (decide_eq_false (not_not_intro (by rw [e2]))) (by decide) rfl ?_
              exact hit (joins_ab.mpr (.inr ⟨e1, e2⟩)) ls' l3
            · refine pa_icmp_t (pc' := 76) dX4_wayBetween_71 (decide_eq_true (fun v => e2 ((nI_eq (by omega) (by omega)).mp v))) (by decide) ?_
              exact nx (fun v => (joins_ab.mp v).elim q (fun w => e2 w.2)) ls' l0 l1 l2 l3
          · refine pa_icmp_t (pc' := 76) dX4_wayBetween_58 (decide_eq_true (fun v => e1 ((nI_eq (by omega) (by omega)).mp v))) (by decide) ?_
            exact nx (fun v => (joins_ab.mp v).elim q (fun w => e1 w.1)) ls' l0 l1 l2 l3
        refine pa_aload_n (pc' := 11) dX4_wayBetween_10 hl0 rfl ?_
        refine pa_getR (pc' := 14) (n := 15) (r := c + 3) dX4_wayBetween_11 fl_4_20 sc (by decide) rc11 rfl ?_
        refine pa_iload_n (pc' := 15) dX4_wayBetween_14 hl3 rfl ?_
        refine pa_aald (pc' := 16) (r := c + 7 + j) dX4_wayBetween_15 sc3 (by decide) (zn_in (by omega) (by omega)) (by rw [nI_clamp (by omega)]; exact rj) rfl ?_
        refine pa_getI (pc' := 19) (n := 4) (v := nI (wa A j)) dX4_wayBetween_16 fl_4_77 sw (by decide) v1 rfl ?_
        refine pa_iload_n (pc' := 20) dX4_wayBetween_19 hl1 rfl ?_
        by_cases e1 : wa A j = a
        · refine pa_icmp_f (pc' := 23) dX4_wayBetween_20 (decide_eq_false (not_not_intro (by rw [e1]))) (by decide) rfl ?_
          refine pa_aload_n (pc' := 24) dX4_wayBetween_23 hl0 rfl ?_
          refine pa_getR (pc' := 27) (n := 15) (r := c + 3) dX4_wayBetween_24 fl_4_20 sc (by decide) rc11 rfl ?_
          refine pa_iload_n (pc' := 28) dX4_wayBetween_27 hl3 rfl ?_
          refine pa_aald (pc' := 29) (r := c + 7 + j) dX4_wayBetween_28 sc3 (by decide) (zn_in (by omega) (by omega)) (by rw [nI_clamp (by omega)]; exact rj) rfl ?_
          refine pa_getI (pc' := 32) (n := 4) (v := nI (wb A j)) dX4_wayBetween_29 fl_4_80 sw (by decide) v2 rfl ?_
          refine pa_iload_n (pc' := 33) dX4_wayBetween_32 hl2 rfl ?_
          by_cases e2 : wb A j = b
          · refine pa_icmp_f (pc' := 36) dX4_wayBetween_33 (decide_eq_false (not_not_intro (by rw [e2]))) (by decide) rfl ?_
            refine pa_iconst (v := nI 1) (pc' := 37) dX4_wayBetween_36 (by decide) rfl ?_
            refine pa_goto (pc' := 41) dX4_wayBetween_37 (by decide) ?_
            refine pa_istore (pc' := 43) dX4_wayBetween_41 (by decide) rfl rfl ?_
            refine pa_iload (pc' := 45) dX4_wayBetween_43 zget_s1e rfl ?_
            refine pa_if_t (pc' := 74) dX4_wayBetween_45 (by decide) (by decide) ?_
            exact hit (joins_ab.mpr (.inl ⟨e1, e2⟩)) _ (zget_s1 hl3 (by decide) (by simp [zcat]))
          · refine pa_icmp_t (pc' := 40) dX4_wayBetween_33 (decide_eq_true (fun v => e2 ((nI_eq (by omega) (by omega)).mp v))) (by decide) ?_
            refine pa_iconst (v := nI 0) (pc' := 41) dX4_wayBetween_40 (by decide) rfl ?_
            refine pa_istore (pc' := 43) dX4_wayBetween_41 (by decide) rfl rfl ?_
            refine pa_iload (pc' := 45) dX4_wayBetween_43 zget_s1e rfl ?_
            refine pa_if_f (pc' := 48) dX4_wayBetween_45 (by decide) (by decide) rfl ?_
            exact two (fun w => e2 w.2) _ (zget_s1 hl0 (by decide) (by simp [zcat])) (zget_s1 hl1 (by decide) (by simp [zcat])) (zget_s1 hl2 (by decide) (by simp [zcat])) (zget_s1 hl3 (by decide) (by simp [zcat]))
        · refine pa_icmp_t (pc' := 40) dX4_wayBetween_20 (decide_eq_true (fun v => e1 ((nI_eq (by omega) (by omega)).mp v))) (by decide) ?_
          refine pa_iconst (v := nI 0) (pc' := 41) dX4_wayBetween_40 (by decide) rfl ?_
          refine pa_istore (pc' := 43) dX4_wayBetween_41 (by decide) rfl rfl ?_
          refine pa_iload (pc' := 45) dX4_wayBetween_43 zget_s1e rfl ?_
          refine pa_if_f (pc' := 48) dX4_wayBetween_45 (by decide) (by decide) rfl ?_
          exact two (fun w => e1 w.1) _ (zget_s1 hl0 (by decide) (by simp [zcat])) (zget_s1 hl1 (by decide) (by simp [zcat])) (zget_s1 hl2 (by decide) (by simp [zcat])) (zget_s1 hl3 (by decide) (by simp [zcat]))
  show zPn N none d mX4_wayBetween (0, [(0, .inr (.inr (some c))), (1, .inl (nI a)), (2, .inl (nI b))], [], h) _
  refine pa_iconst (v := nI 0) (pc' := 1) dX4_wayBetween_0 (by decide) rfl ?_
  refine pa_istore_n (pc' := 2) dX4_wayBetween_1 (by decide) rfl rfl ?_
  exact lp _ 0 _ (Nat.zero_le _) rfl rfl rfl rfl rfl
theorem N_way11 (z : lZ A c s H J h) (hi : lInv t h) (hx0 : lX A c s H J h) : zPa d mX11_way [.inr (.inr (some 0)), .inl x, .inl y] h (fun v _ => v = some (.inl (wyV A s x y))) := by
  intro N
  have h1 := hi.2.2.2.2.1
  have hA := z.1.1
  have hT := z.1.2.1
  have hB := z.1.2.2
  have hI := hA.1
  have hN := z.2.1.1
  have K := hA.2.2.2.1
  have hc2 : c = 2 ∨ c = 42 := hA.2.1
  obtain ⟨b1, b2, b3, b4, b5⟩ := hI.2.2.1
  have s0 : zsh h 0 = some (11, 16) := zsh_by h1 (by decide +kernel)
  obtain ⟨sc, sc1, sc2, sc4, sc5, scw, scb⟩ := cSh hA.2.1 h1
  obtain ⟨c9, c12, c13, cw, cb⟩ := cRf_of hi.1 hA.2.1
  have S := hi.nw
  obtain ⟨⟨s86, s87, s88, s89, s90, s91⟩, r87, r88, r89, r90, r91⟩ := S.o86
  have r3 := hA.2.2.1
  have r6 := S.2.1
  obtain ⟨n1, n2, n3, n4⟩ := z.2.2.1.1
  have u := hx0.1
  show zPn N none d mX11_way (0, [(0, .inr (.inr (some 0))), (1, .inl x), (2, .inl y)], [], h) _
  refine pa_aload_n (pc' := 1) dX11_way_0 rfl rfl ?_
  refine pa_iload_n (pc' := 2) dX11_way_1 rfl rfl ?_
  refine pa_iload_n (pc' := 3) dX11_way_2 rfl rfl ?_
  refine pa_callv (pc' := 6) (vs := [.inl x, .inl y]) (rest := []) dX11_way_3 ml_11_204 (by decide) rfl rfl rfl (fun d' _ => (N_areTwo hA h1)) (fun v g9 hq => ?_)
  obtain ⟨ev, eh⟩ := hq
  subst ev
  rw [eh]
  show zPn N none d mX11_way (6, _, [.inl (if twB A x y = true then 1 else 0)], h) _
  by_cases hx : twB A x y = true
  case neg =>
    rw [if_neg hx]
    refine pa_if_f (pc' := 9) dX11_way_6 (by decide) (by decide) rfl ?_
    refine pa_aload_n (pc' := 10) dX11_way_9 rfl rfl ?_
    refine pa_iconst (v := nI 1) (pc' := 11) dX11_way_10 (by decide) rfl ?_
    refine pa_callv (pc' := 14) (vs := [.inl (nI 1)]) (rest := []) dX11_way_11 ml_11_98 (by decide) rfl rfl rfl (fun d' _ => (c_ref s0)) (fun v g hq => ?_)
    obtain ⟨ev, eh⟩ := hq
    subst ev
    show zPn N none d mX11_way (14, _, [.inl ((-1))], g) _
    refine pa_iret dX11_way_14 rfl rfl ?_
    unfold wyV
    rw [if_neg hx]
  rw [if_pos hx]
  have hw := twB_iff.mp hx
  obtain ⟨i, rfl, hi2, ei⟩ := nI_ob hw.1.1.1 hw.1.1.2
  obtain ⟨j, rfl, hj2, ej⟩ := nI_ob hw.1.2.1 hw.1.2.2
  have B := z.bc hi (show cI A ≠ 0 by omega)
  have V : wyV A s (nI i) (nI j) = wyR A (fsF (joF A s.2.1 i j) (cW A)) := by
    unfold wyV
    rw [if_pos hx, ei, ej]
  rw [V]
  refine pa_if_t (pc' := 15) dX11_way_6 (by decide) (by decide) ?_
  refine pa_aload_n (pc' := 16) dX11_way_15 rfl rfl ?_
  refine pa_getR (pc' := 19) (n := 16) (r := c) dX11_way_16 fl_11_23 s0 (by decide) r3 rfl ?_
  refine pa_iload_n (pc' := 20) dX11_way_19 rfl rfl ?_
  refine pa_iload_n (pc' := 21) dX11_way_20 rfl rfl ?_
  refine pa_callv (pc' := 24) (vs := [.inl (nI i), .inl (nI j)]) (rest := []) dX11_way_21 ml_11_207 (by decide) rfl rfl rfl (fun d' _ => (N_btw B (by omega) (by omega))) (fun v g9 hq => ?_)
  obtain ⟨ev, eh⟩ := hq
  subst ev
  rw [eh]
  show zPn N none d mX11_way (24, _, [.inl (wvO (fsF (joinsB A.2.2.2.1 i j) (cW A)))], h) _
  refine pa_istore_n (pc' := 25) dX11_way_24 (by decide) rfl rfl ?_
  refine pa_iload_n (pc' := 26) dX11_way_25 rfl rfl ?_
  refine pa_bipush (v := (-2)) (pc' := 28) dX11_way_26 (by decide) rfl ?_
  cases o : fsF (joinsB A.2.2.2.1 i j) (cW A) with
  | none =>
    refine pa_icmp_t (pc' := 42) dX11_way_28 (show zcond .eq (wvO none) (-2) = true by decide) (by decide) ?_
    refine pa_aload_n (pc' := 43) dX11_way_42 rfl rfl ?_
    refine pa_bipush (v := (-2)) (pc' := 45) dX11_way_43 (by decide) rfl ?_
    refine pa_callv (pc' := 48) (vs := [.inl ((-2))]) (rest := []) dX11_way_45 ml_11_112 (by decide) rfl rfl rfl (fun d' _ => (c_gra s0)) (fun v g9 hq => ?_)
    obtain ⟨ev, eh⟩ := hq
    subst ev
    show zPn N none d mX11_way (48, _, [.inl (((-2)))], g9) _
    refine pa_iret dX11_way_48 rfl rfl ?_
    rw [wy_no o]
    rfl
  | some k =>
    obtain ⟨hk, hkj⟩ := fsF_in _ o
    have nk2 : ¬ nI k = -2 := fun q => by
      have := congrArg Int32.toInt q
      rw [nI_toInt (by omega), show (-2 : Int32).toInt = -2 by decide] at this
      omega
    rw [show wvO (some k) = nI k from rfl]
    refine pa_icmp_f (pc' := 31) dX11_way_28 (decide_eq_false nk2) (by decide) rfl ?_
    refine pa_aload_n (pc' := 32) dX11_way_31 rfl rfl ?_
    refine pa_getR (pc' := 35) (n := 16) (r := 86) dX11_way_32 fl_11_42 s0 (by decide) r6 rfl ?_
    refine pa_iload_n (pc' := 36) dX11_way_35 rfl rfl ?_
    refine pa_callv (pc' := 39) (vs := [.inl (nI k)]) (rest := []) dX11_way_36 ml_11_210 (by decide) rfl rfl rfl (fun d' _ => (N_isClosed h1 n2)) (fun v g9 hq => ?_)
    obtain ⟨ev, eh⟩ := hq
    subst ev
    rw [eh]
    show zPn N none d mX11_way (39, _, [.inl (if clB s.2.1 k = true then 1 else 0)], h) _
    by_cases q : clB s.2.1 k = true
    · rw [if_pos q]
      refine pa_if_f (pc' := 42) dX11_way_39 (by decide) (by decide) rfl ?_
      refine pa_aload_n (pc' := 43) dX11_way_42 rfl rfl ?_
      refine pa_bipush (v := (-2)) (pc' := 45) dX11_way_43 (by decide) rfl ?_
      refine pa_callv (pc' := 48) (vs := [.inl ((-2))]) (rest := []) dX11_way_45 ml_11_112 (by decide) rfl rfl rfl (fun d' _ => (c_gra s0)) (fun v g9 hq => ?_)
      obtain ⟨ev, eh⟩ := hq
      subst ev
      show zPn N none d mX11_way (48, _, [.inl (((-2)))], g9) _
      refine pa_iret dX11_way_48 rfl rfl ?_
      rw [wy_cl u o q]
      rfl
    · have sy := B.2.1.wy (k := k) (by omega)
      have s3 : zsh h (c + 3) = some (19, 12) := by
        rcases hc2 with e | e <;> subst e <;> exact zsh_by h1 (by decide +kernel)
      have r11 := B.2.1.2.2.2.1.2.2.2.1
      have ry := B.2.1.2.2.2.1.2.2.2.2 k (by omega)
      have ed := (B.2.1.2.2.2.2.2 k hk).2.2.1
      rw [if_neg q]
      refine pa_if_t (pc' := 49) dX11_way_39 (by decide) (by decide) ?_
      refine pa_aload_n (pc' := 50) dX11_way_49 rfl rfl ?_
      refine pa_aload_n (pc' := 51) dX11_way_50 rfl rfl ?_
      refine pa_getR (pc' := 54) (n := 16) (r := c) dX11_way_51 fl_11_23 s0 (by decide) r3 rfl ?_
      refine pa_getR (pc' := 57) (n := 15) (r := c + 3) dX11_way_54 fl_11_213 sc (by decide) r11 rfl ?_
      refine pa_iload_n (pc' := 58) dX11_way_57 rfl rfl ?_
      refine pa_aald (pc' := 59) (r := c + 7 + k) dX11_way_58 s3 (by decide) (zn_in (by omega) (by omega)) (by rw [nI_clamp (by omega)]; exact ry) rfl ?_
      refine pa_getI (pc' := 62) (n := 4) (v := nI (dyA A k)) dX11_way_59 fl_11_217 sy (by decide) ed rfl ?_
      refine pa_callv (pc' := 65) (vs := [.inl (nI (dyA A k))]) (rest := []) dX11_way_62 ml_11_112 (by decide) rfl rfl rfl (fun d' _ => (c_gra s0)) (fun v g9 hq => ?_)
      obtain ⟨ev, eh⟩ := hq
      subst ev
      show zPn N none d mX11_way (65, _, [.inl (nI ((dyA A k)))], g9) _
      refine pa_iret dX11_way_65 rfl rfl ?_
      rw [wy_op u o q]
      rfl
/-- the reference -/
theorem M_joinsN {W : Nat} {a b dy : Nat → Nat} {op : Nat → Int32} {x y : Nat} (K : seM n W a b dy op cl h) (hk : k < W) (hx : x < 7) (hy : y < 7) : zPa d mX12_joins [.inr (.inr (some 199)), .inl (nI k), .inl (nI x), .inl (nI y)] h (fun v g => v = some (.inl (if (a k = x ∧ b k = y) ∨ (a k = y ∧ b k = x) then 1 else 0)) ∧ g = h) := by
  intro N
  have hW := K.2.2.1
  have s199 : zsh h 199 = some (14, 363) := zsh_by K.1 (by decide +kernel)
  obtain ⟨e0, e1, -, -, la, lb, -⟩ := K.2.2.2.2.2 k hk
  have yes : (a k = x ∧ b k = y) ∨ (a k = y ∧ b k = x) → ∀ ls, zPn N none d mX12_joins (46, ls, [], h) (fun v g => v = some (.inl (if (a k = x ∧ b k = y) ∨ (a k = y ∧ b k = x) then 1 else 0)) ∧ g = h) := fun q ls => by
    refine pa_iconst (v := 1) (pc' := 47) dX12_joins_46 (by decide) rfl ?_
    refine pa_goto (pc' := 51) dX12_joins_47 (by decide) ?_
    refine pa_iret dX12_joins_51 rfl rfl ?_
    exact ⟨by rw [if_pos q], rfl⟩
  have no : ¬ ((a k = x ∧ b k = y) ∨ (a k = y ∧ b k = x)) → ∀ ls, zPn N none d mX12_joins (50, ls, [], h) (fun v g => v = some (.inl (if (a k = x ∧ b k = y) ∨ (a k = y ∧ b k = x) then 1 else 0)) ∧ g = h) := fun q ls => by
    refine pa_iconst (v := 0) (pc' := 51) dX12_joins_50 (by decide) rfl ?_
    refine pa_iret dX12_joins_51 rfl rfl ?_
    exact ⟨by rw [if_neg q], rfl⟩
  have two : ¬ (a k = x ∧ b k = y) → ∀ ls, zget ls 2 = some (.inl (nI x)) → zget ls 3 = some (.inl (nI y)) → zget ls 4 = some (.inl (nI (a k))) → zget ls 5 = some (.inl (nI (b k))) → zPn N none d mX12_joins (34, ls, [], h) (fun v g => v = some (.inl (if (a k = x ∧ b k = y) ∨ (a k = y ∧ b k = x) then 1 else 0)) ∧ g = h) := fun q ls l2 l3 l4 l5 => by
    refine pa_iload (pc' := 36) dX12_joins_34 l4 rfl ?_
    refine pa_iload_n (pc' := 37) dX12_joins_36 l3 rfl ?_
    by_cases p1 : a k = y
    · refine pa_icmp_f (pc' := 40) dX12_joins_37 (decide_eq_false (not_not_intro (by rw [p1]))) (by decide) rfl ?_
      refine pa_iload (pc' := 42) dX12_joins_40 l5 rfl ?_
      refine pa_iload_n (pc' := 43) dX12_joins_42 l2 rfl ?_
      by_cases p2 : b k = x
      · refine pa_icmp_f (pc' := 46) dX12_joins_43 (decide_eq_false (not_not_intro (by rw [p2]))) (by decide) rfl ?_
        exact yes (.inr ⟨p1, p2⟩) _
      · refine pa_icmp_t (pc' := 50) dX12_joins_43 (decide_eq_true (fun v => p2 ((nI_eq (by omega) (by omega)).mp v))) (by decide) ?_
        exact no (fun v => v.elim q (fun w => p2 w.2)) _
    · refine pa_icmp_t (pc' := 50) dX12_joins_37 (decide_eq_true (fun v => p1 ((nI_eq (by omega) (by omega)).mp v))) (by decide) ?_
      exact no (fun v => v.elim q (fun w => p1 w.1)) _
  show zPn N none d mX12_joins (0, [(0, .inr (.inr (some 199))), (1, .inl (nI k)), (2, .inl (nI x)), (3, .inl (nI y))], [], h) _
  have e0' : h.2.1 199 (59 + 4 * k) = nI (a k) := e0
  refine pa_aload_n (pc' := 1) dX12_joins_0 rfl rfl ?_
  refine pa_bipush (v := nI 59) (pc' := 3) dX12_joins_1 (by decide) rfl ?_
  refine pa_iconst (v := nI 4) (pc' := 4) dX12_joins_3 (by decide) rfl ?_
  refine pa_iload_n (pc' := 5) dX12_joins_4 rfl rfl ?_
  refine pa_imul (pc' := 6) (v := nI (4 * k)) dX12_joins_5 (nI_mul _ _) rfl ?_
  refine pa_iadd (pc' := 7) (v := nI (59 + 4 * k)) dX12_joins_6 (nI_add _ _) rfl ?_
  refine pa_iald (pc' := 8) dX12_joins_7 s199 rfl (fun _ => ?_)
  rw [nI_clamp (by omega), e0']
  refine pa_istore (pc' := 10) dX12_joins_8 (by decide) rfl rfl ?_
  refine pa_aload_n (pc' := 11) dX12_joins_10 rfl rfl ?_
  refine pa_bipush (v := nI 59) (pc' := 13) dX12_joins_11 (by decide) rfl ?_
  refine pa_iconst (v := nI 4) (pc' := 14) dX12_joins_13 (by decide) rfl ?_
  refine pa_iload_n (pc' := 15) dX12_joins_14 rfl rfl ?_
  refine pa_imul (pc' := 16) (v := nI (4 * k)) dX12_joins_15 (nI_mul _ _) rfl ?_
  refine pa_iadd (pc' := 17) (v := nI (59 + 4 * k)) dX12_joins_16 (nI_add _ _) rfl ?_
  refine pa_iconst (v := nI 1) (pc' := 18) dX12_joins_17 (by decide) rfl ?_
  refine pa_iadd (pc' := 19) (v := nI (59 + 4 * k + 1)) dX12_joins_18 (nI_add _ _) rfl ?_
  refine pa_iald (pc' := 20) dX12_joins_19 s199 rfl (fun _ => ?_)
  rw [nI_clamp (by omega), e1]
  refine pa_istore (pc' := 22) dX12_joins_20 (by decide) rfl rfl ?_
  refine pa_iload (pc' := 24) dX12_joins_22 rfl rfl ?_
  refine pa_iload_n (pc' := 25) dX12_joins_24 rfl rfl ?_
  by_cases p1 : a k = x
  · refine pa_icmp_f (pc' := 28) dX12_joins_25 (decide_eq_false (not_not_intro (by rw [p1]))) (by decide) rfl ?_
    refine pa_iload (pc' := 30) dX12_joins_28 rfl rfl ?_
    refine pa_iload_n (pc' := 31) dX12_joins_30 rfl rfl ?_
    by_cases p2 : b k = y
    · refine pa_icmp_t (pc' := 46) dX12_joins_31 (decide_eq_true (by rw [p2])) (by decide) ?_
      exact yes (.inl ⟨p1, p2⟩) _
    · refine pa_icmp_f (pc' := 34) dX12_joins_31 (decide_eq_false (fun v => p2 ((nI_eq (by omega) (by omega)).mp v))) (by decide) rfl ?_
      exact two (fun w => p2 w.2) _ rfl rfl rfl rfl
  · refine pa_icmp_t (pc' := 34) dX12_joins_25 (decide_eq_true (fun v => p1 ((nI_eq (by omega) (by omega)).mp v))) (by decide) ?_
    exact two (fun w => p1 w.1) _ rfl rfl rfl rfl
theorem M_wayOf (B : bgM A s h) (ha : a < 7) (hb : b < 7) : zPa d mX12_wayOf [.inr (.inr (some 196)), .inl (nI a), .inl (nI b)] h (fun v g => v = some (.inl (wvM (fsF (joF A s.2.1 a b) (cW A)))) ∧ g = h) := by
  intro N
  have K := B.2.1
  have hW := K.2.2.1
  have s196 := sh_196' K.1
  have s199 : zsh h 199 = some (14, 363) := zsh_by K.1 (by decide +kernel)
  have r15 := K.2.2.2.1.1
  have e5 := K.2.2.2.2.1.2.1
  have lp : ∀ (N j : Nat) (ls : zL), j ≤ cW A → fsF (joF A s.2.1 a b) j = none → zget ls 0 = some (.inr (.inr (some 196))) → zget ls 1 = some (.inl (nI a)) → zget ls 2 = some (.inl (nI b)) → zget ls 3 = some (.inl (nI j)) → zPn N none d mX12_wayOf (2, ls, [], h) (fun v g => v = some (.inl (wvM (fsF (joF A s.2.1 a b) (cW A)))) ∧ g = h) := by
    intro N
    induction N with
    | zero => intros; exact zPn.zero
    | succ N ih =>
      intro j ls hj hno hl0 hl1 hl2 hl3
      refine pa_iload_n (pc' := 3) dX12_wayOf_2 hl3 rfl ?_
      refine pa_aload_n (pc' := 4) dX12_wayOf_3 hl0 rfl ?_
      refine pa_getR (pc' := 7) (n := 39) (r := 199) dX12_wayOf_4 fl_12_20 s196 (by decide) r15 rfl ?_
      refine pa_iconst (v := nI 5) (pc' := 8) dX12_wayOf_7 (by decide) rfl ?_
      refine pa_iald (pc' := 9) dX12_wayOf_8 s199 rfl (fun _ => ?_)
      rw [nI_clamp (by omega), e5]
      refine pa_icmp (pc' := 41) (pc2 := 12) dX12_wayOf_9 (by decide) rfl (fun z => ?_) (fun z => ?_)
      · have z := zi_nlt (zk_ge_lt z)
        rw [nI_toInt (by omega), nI_toInt (by omega)] at z
        have ej : j = cW A := by omega
        subst ej
        refine pa_iconst (v := (-1)) (pc' := 42) dX12_wayOf_41 (by decide) rfl ?_
        refine pa_iret dX12_wayOf_42 rfl rfl ?_
        exact ⟨by rw [hno]; rfl, rfl⟩
      · have z := zi_lt (zk_ge_lt z)
        rw [nI_toInt (by omega), nI_toInt (by omega)] at z
        have hj : j < cW A := by omega
        have nx : ¬ joF A s.2.1 a b j = true → zPn (N + 1) none d mX12_wayOf (35, ls, [], h) (fun v g => v = some (.inl (wvM (fsF (joF A s.2.1 a b) (cW A)))) ∧ g = h) := fun q => by
          refine pa_iinc (pc' := 38) (v := nI (j + 1)) dX12_wayOf_35 hl3 (by decide) (nI_add j 1) rfl rfl ?_
          refine pa_gotos (pc' := 2) dX12_wayOf_38 (by decide) ?_
          exact ih (j + 1) _ (by omega) (fsF_nx hno q) (zget_s1 hl0 (by decide) (by simp [zcat])) (zget_s1 hl1 (by decide) (by simp [zcat])) (zget_s1 hl2 (by decide) (by simp [zcat])) zget_s1e
        refine pa_aload_n (pc' := 13) dX12_wayOf_12 hl0 rfl ?_
        refine pa_getR (pc' := 16) (n := 39) (r := 199) dX12_wayOf_13 fl_12_20 s196 (by decide) r15 rfl ?_
        refine pa_iload_n (pc' := 17) dX12_wayOf_16 hl3 rfl ?_
        refine pa_iload_n (pc' := 18) dX12_wayOf_17 hl1 rfl ?_
        refine pa_iload_n (pc' := 19) dX12_wayOf_18 hl2 rfl ?_
        refine pa_calls (pc' := 22) (kd := 1) (vs := [.inr (.inr (some 199)), .inl (nI j), .inl (nI a), .inl (nI b)]) (rest := []) dX12_wayOf_19 ml_12_230 (.inl rfl) rfl rfl rfl (fun d' _ => (M_joinsN K hj ha hb)) (fun v g9 hq => ?_)
        obtain ⟨ev, eh⟩ := hq
        subst ev
        rw [eh]
        show zPn (N + 1) none d mX12_wayOf (22, _, [.inl (if (wa A j = a ∧ wb A j = b) ∨ (wa A j = b ∧ wb A j = a) then 1 else 0)], h) _
        by_cases q : joinsB A.2.2.2.1 a b j = true
        case neg =>
          rw [if_neg (fun p => q (joins_ab.mpr p))]
          refine pa_if_t (pc' := 35) dX12_wayOf_22 (by decide) (by decide) ?_
          exact nx (fun v => q (joF_iff.mp v).1)
        rw [if_pos (joins_ab.mp q)]
        refine pa_if_f (pc' := 25) dX12_wayOf_22 (by decide) (by decide) rfl ?_
        refine pa_aload_n (pc' := 26) dX12_wayOf_25 hl0 rfl ?_
        refine pa_iload_n (pc' := 27) dX12_wayOf_26 hl3 rfl ?_
        refine pa_callv (pc' := 30) (vs := [.inl (nI j)]) (rest := []) dX12_wayOf_27 ml_12_302 (by decide) rfl rfl rfl (fun d' _ => (M_isClosed K)) (fun v g9 hq => ?_)
        obtain ⟨ev, eh⟩ := hq
        subst ev
        rw [eh]
        show zPn (N + 1) none d mX12_wayOf (30, _, [.inl (if clB s.2.1 j = true then 1 else 0)], h) _
        by_cases o : clB s.2.1 j = true
        · rw [if_pos o]
          refine pa_if_t (pc' := 35) dX12_wayOf_30 (by decide) (by decide) ?_
          exact nx (fun v => (joF_iff.mp v).2 o)
        · rw [if_neg o]
          refine pa_if_f (pc' := 33) dX12_wayOf_30 (by decide) (by decide) rfl ?_
          refine pa_iload_n (pc' := 34) dX12_wayOf_33 hl3 rfl ?_
          refine pa_iret dX12_wayOf_34 rfl rfl ?_
          exact ⟨by rw [fsF_st (fsF_hit hno (joF_iff.mpr ⟨q, o⟩)) _ hj]; rfl, rfl⟩
  show zPn N none d mX12_wayOf (0, [(0, .inr (.inr (some 196))), (1, .inl (nI a)), (2, .inl (nI b))], [], h) _
  refine pa_iconst (v := nI 0) (pc' := 1) dX12_wayOf_0 (by decide) rfl ?_
  refine pa_istore_n (pc' := 2) dX12_wayOf_1 (by decide) rfl rfl ?_
  exact lp _ 0 _ (Nat.zero_le _) rfl rfl rfl rfl rfl
theorem N_way12 (z : lZ A c s H J g) (m : lMid kk im t g h) (hx0 : lX A c s H J g) : zPa d mX12_way [.inr (.inr (some 196)), .inl x, .inl y] h (fun v _ => v = some (.inl (wyV A s x y))) := by
  intro N
  have s196 : zsh h 196 = some (12, 39) := zsh_by m.2.1.2.2.2 (by decide +kernel)
  generalize eg : zsI (zsI h 196 0 0) 196 11 0 = h2
  have e2 : ∀ a k, a ≠ 196 → h2.2.1 a k = h.2.1 a k := fun a k ha => by rw [← eg, zsI_no (by omega), zsI_no (by omega)]
  have e3 : ∀ k, k ≠ 0 → k ≠ 11 → h2.2.1 196 k = h.2.1 196 k := fun k w1 w2 => by rw [← eg, zsI_no (by omega), zsI_no (by omega)]
  have h1 : h2.1 = hh_487.1 := by rw [← eg]; exact m.2.1.2.2.2
  have hA : lPA A c h2 := by rw [← eg]; exact (m.pa z.1.1).gd
  have B : cI A ≠ 0 → bgM A s h2 := fun ne => by rw [← eg]; exact (z.bm m ne).gd
  have er : h2.2.2.2.1 = h.2.2.2.1 := by rw [← eg]; rfl
  have q15 : h2.2.2.2.1 196 15 = some 199 := by rw [er]; exact m.r15
  have q17 : h2.2.2.2.1 196 17 = some 201 := by rw [er]; exact m.mw.2.1
  have z196 : zsh h2 196 = some (12, 39) := zsh_by h1 (by decide +kernel)
  have z199 : zsh h2 199 = some (14, 363) := zsh_by h1 (by decide +kernel)
  have z201 : zsh h2 201 = some (14, 76) := zsh_by h1 (by decide +kernel)
  have M : nMo A s 201 0 h2 := (z.lm m).1.1.fr (fun k => e2 _ _ (by decide))
  have hT := z.1.2.1
  have hB := z.1.2.2
  have hI := z.1.1.1
  have hN := z.2.1.1
  have k0 : (0 : Int32).toInt = 0 := by decide
  obtain ⟨b1, b2, b3, b4, b5⟩ := hI.2.2.1
  show zPn N none d mX12_way (0, [(0, .inr (.inr (some 196))), (1, .inl x), (2, .inl y)], [], h) _
  refine pa_aload_n (pc' := 1) dX12_way_0 rfl rfl ?_
  refine pa_callv (pc' := 4) (vs := []) (rest := []) dX12_way_1 ml_12_167 (by decide) rfl rfl rfl (fun d' _ => (m_good s196)) (fun v h3 hq => ?_)
  obtain ⟨ev, eh⟩ := hq
  subst ev
  show zPn N none d mX12_way (4, _, [], h3) _
  rw [eg] at eh
  subst eh
  refine pa_aload_n (pc' := 5) dX12_way_4 rfl rfl ?_
  refine pa_iload_n (pc' := 6) dX12_way_5 rfl rfl ?_
  refine pa_callv (pc' := 9) (vs := [.inl x]) (rest := []) dX12_way_6 ml_12_277 (by decide) rfl rfl rfl (fun d' _ => (N_isI12 hA q15 h1)) (fun v g9 hq => ?_)
  obtain ⟨ev, eh⟩ := hq
  subst ev
  rw [eh]
  show zPn N none d mX12_way (9, _, [.inl (if 0 ≤ (x).toInt ∧ (x).toInt < (cI A:Int) then 1 else 0)], h3) _
  by_cases hx : 0 ≤ x.toInt ∧ x.toInt < (cI A : Int)
  case neg =>
    rw [if_neg hx]
    refine pa_if_t (pc' := 25) dX12_way_9 (by decide) (by decide) ?_
    refine pa_aload_n (pc' := 26) dX12_way_25 rfl rfl ?_
    refine pa_iconst (v := nI 1) (pc' := 27) dX12_way_26 (by decide) rfl ?_
    refine pa_callv (pc' := 30) (vs := [.inl (nI 1)]) (rest := []) dX12_way_27 ml_12_170 (by decide) rfl rfl rfl (fun d' _ => (m_no z196)) (fun v g hq => ?_)
    obtain ⟨ev, eh⟩ := hq
    subst ev
    show zPn N none d mX12_way (30, _, [.inl ((-1))], g) _
    refine pa_iret dX12_way_30 rfl rfl ?_
    unfold wyV
    rw [if_neg (fun q => hx (twB_iff.mp q).1.1)]
  rw [if_pos hx]
  refine pa_if_f (pc' := 12) dX12_way_9 (by decide) (by decide) rfl ?_
  refine pa_aload_n (pc' := 13) dX12_way_12 rfl rfl ?_
  refine pa_iload_n (pc' := 14) dX12_way_13 rfl rfl ?_
  refine pa_callv (pc' := 17) (vs := [.inl y]) (rest := []) dX12_way_14 ml_12_277 (by decide) rfl rfl rfl (fun d' _ => (N_isI12 hA q15 h1)) (fun v g9 hq => ?_)
  obtain ⟨ev, eh⟩ := hq
  subst ev
  rw [eh]
  show zPn N none d mX12_way (17, _, [.inl (if 0 ≤ (y).toInt ∧ (y).toInt < (cI A:Int) then 1 else 0)], h3) _
  by_cases hy : 0 ≤ y.toInt ∧ y.toInt < (cI A : Int)
  case neg =>
    rw [if_neg hy]
    refine pa_if_t (pc' := 25) dX12_way_17 (by decide) (by decide) ?_
    refine pa_aload_n (pc' := 26) dX12_way_25 rfl rfl ?_
    refine pa_iconst (v := nI 1) (pc' := 27) dX12_way_26 (by decide) rfl ?_
    refine pa_callv (pc' := 30) (vs := [.inl (nI 1)]) (rest := []) dX12_way_27 ml_12_170 (by decide) rfl rfl rfl (fun d' _ => (m_no z196)) (fun v g hq => ?_)
    obtain ⟨ev, eh⟩ := hq
    subst ev
    show zPn N none d mX12_way (30, _, [.inl ((-1))], g) _
    refine pa_iret dX12_way_30 rfl rfl ?_
    unfold wyV
    rw [if_neg (fun q => hy (twB_iff.mp q).1.2)]
  rw [if_pos hy]
  refine pa_if_f (pc' := 20) dX12_way_17 (by decide) (by decide) rfl ?_
  refine pa_iload_n (pc' := 21) dX12_way_20 rfl rfl ?_
  refine pa_iload_n (pc' := 22) dX12_way_21 rfl rfl ?_
  by_cases e : x = y
  · refine pa_icmp_f (pc' := 25) dX12_way_22 (decide_eq_false (not_not_intro e)) (by decide) rfl ?_
    refine pa_aload_n (pc' := 26) dX12_way_25 rfl rfl ?_
    refine pa_iconst (v := nI 1) (pc' := 27) dX12_way_26 (by decide) rfl ?_
    refine pa_callv (pc' := 30) (vs := [.inl (nI 1)]) (rest := []) dX12_way_27 ml_12_170 (by decide) rfl rfl rfl (fun d' _ => (m_no z196)) (fun v g hq => ?_)
    obtain ⟨ev, eh⟩ := hq
    subst ev
    show zPn N none d mX12_way (30, _, [.inl ((-1))], g) _
    refine pa_iret dX12_way_30 rfl rfl ?_
    unfold wyV
    rw [if_neg (fun q => (twB_iff.mp q).2 e)]
  · have V : wyV A s x y = wyR A (fsF (joF A s.2.1 x.toInt.toNat y.toInt.toNat) (cW A)) := if_pos (twB_iff.mpr ⟨⟨hx, hy⟩, e⟩)
    rw [V]
    clear V
    obtain ⟨i, rfl, hi2, ei⟩ := nI_ob hx.1 hx.2
    obtain ⟨j, rfl, hj2, ej⟩ := nI_ob hy.1 hy.2
    have B := B (show cI A ≠ 0 by omega)
    rw [ei, ej]
    refine pa_icmp_t (pc' := 31) dX12_way_22 (decide_eq_true e) (by decide) ?_
    refine pa_aload_n (pc' := 32) dX12_way_31 rfl rfl ?_
    refine pa_iload_n (pc' := 33) dX12_way_32 rfl rfl ?_
    refine pa_iload_n (pc' := 34) dX12_way_33 rfl rfl ?_
    refine pa_callv (pc' := 37) (vs := [.inl (nI i), .inl (nI j)]) (rest := []) dX12_way_34 ml_12_305 (by decide) rfl rfl rfl (fun d' _ => (M_wayOf B (by omega) (by omega))) (fun v g9 hq => ?_)
    obtain ⟨ev, eh⟩ := hq
    subst ev
    rw [eh]
    show zPn N none d mX12_way (37, _, [.inl (wvM (fsF (joF A s.2.1 i j) (cW A)))], h3) _
    refine pa_istore_n (pc' := 38) dX12_way_37 (by decide) rfl rfl ?_
    refine pa_iload_n (pc' := 39) dX12_way_38 rfl rfl ?_
    cases o : fsF (joF A s.2.1 i j) (cW A) with
    | none =>
      refine pa_if_f (pc' := 42) dX12_way_39 (show zcond .ge (wvM none) 0 = false by decide) (by decide) rfl ?_
      refine pa_bipush (v := (-2)) (pc' := 44) dX12_way_42 (by decide) rfl ?_
      refine pa_goto (pc' := 60) dX12_way_44 (by decide) ?_
      refine pa_iret dX12_way_60 rfl rfl ?_
      rfl
    | some k =>
      obtain ⟨hk, -⟩ := fsF_in _ o
      have gk : zcond .ge (nI k) 0 = true := zk_lt_ge (b := false) (zj_nlt (by rw [nI_toInt (by omega), k0]; omega))
      have ed := (B.2.1.2.2.2.2.2 k hk).2.2.1
      rw [show wvM (some k) = nI k from rfl]
      refine pa_if_t (pc' := 47) dX12_way_39 gk (by decide) ?_
      refine pa_aload_n (pc' := 48) dX12_way_47 rfl rfl ?_
      refine pa_getR (pc' := 51) (n := 39) (r := 199) dX12_way_48 fl_12_20 z196 (by decide) q15 rfl ?_
      refine pa_bipush (v := nI 59) (pc' := 53) dX12_way_51 (by decide) rfl ?_
      refine pa_iconst (v := nI 4) (pc' := 54) dX12_way_53 (by decide) rfl ?_
      refine pa_iload_n (pc' := 55) dX12_way_54 rfl rfl ?_
      refine pa_imul (pc' := 56) (v := nI (4 * k)) dX12_way_55 (nI_mul _ _) rfl ?_
      refine pa_iadd (pc' := 57) (v := nI (59 + 4 * k)) dX12_way_56 (nI_add _ _) rfl ?_
      refine pa_iconst (v := nI 2) (pc' := 58) dX12_way_57 (by decide) rfl ?_
      refine pa_iadd (pc' := 59) (v := nI (59 + 4 * k + 2)) dX12_way_58 (nI_add _ _) rfl ?_
      refine pa_iald (pc' := 60) dX12_way_59 z199 rfl (fun _ => ?_)
      rw [nI_clamp (by omega), ed]
      refine pa_iret dX12_way_60 rfl rfl ?_
      rfl
end AN8
/-! answers: registered -/
def nL (n : Nat) : Int64 := Int64.ofNat n
/-- what is lost of 10000, lowest terms: l1, and of the second, if there is one -/
def rgN (l1 l2 : Nat) (y : Int32) : Nat := (if y = 0 then 10000 - l1 * l2 else 10000) / Nat.gcd 10000 (10000 - l1 * l2)
def rgO (A : pA) : Option Nat → Nat
  | none => 100
  | some q => nu A (110 + 4 * q)
def rgI (A : pA) (s : nS) (b : Nat) (y : Int32) : Int32 := match suF A s b none (cH A) with
  | none => -1
  | some p => nI (rgN (nu A (110 + 4 * p)) (rgO A (suF A s b (some p) (cH A))) y)
def rgV (A : pA) (s : nS) (x y : Int32) : Int64 := Int32.toInt64 (if 0 ≤ x.toInt ∧ x.toInt < (cB A : Int) then rgI A s x.toInt.toNat y else -1)
theorem zCl.an {d : Nat} {m : zM} {vs : List zV} {h : zH} {Q : Int64 → zH → Prop} {V : Int64} (a : zCl d m vs h Q) (b : zPa d m vs h (fun v _ => v = some (.inr (.inl V)))) : zCl d m vs h (fun x h' => Q x h' ∧ x = V) := by
  refine zEx.mono (zPa.and a b) (fun v h' hq => ?_)
  obtain ⟨⟨x, e, q⟩, e2⟩ := hq
  refine ⟨x, e, q, ?_⟩
  rw [e] at e2
  cases e2
  rfl
section AN15
variable {t d N c w b i j k n m : Nat} {h g : zH} {A : pA} {s : nS} {H J : List nS} {x y : Int32} {kk : Bool} {im : Int32}
theorem nL_toInt {n : Nat} (h : n ≤ 1000000000) : (nL n).toInt = n := by
  show (Int64.ofNat n).toInt = n
  exact Int64.toInt_ofNat_of_lt (by omega)
theorem nL_nI {n : Nat} (h : n ≤ 1000000000) : nL n = Int32.toInt64 (nI n) := by
  refine Int64.toInt_inj.mp ?_
  rw [nL_toInt h, Int32.toInt_toInt64, nI_toInt (by omega)]
theorem nL_div {a b : Nat} (ha : a ≤ 1000000000) (hb : b ≤ 1000000000) : nL a / nL b = nL (a / b) := by
  have hd : a / b ≤ a := Nat.div_le_self a b
  refine Int64.toInt_inj.mp ?_
  rw [Int64.toInt_div, nL_toInt (by omega), nL_toInt (by omega), nL_toInt (by omega), ← Int.ofNat_tdiv]
  generalize a / b = q at hd ⊢
  exact Int.bmod_eq_of_le (by omega) (by omega)
theorem nL_rem {a b : Nat} (ha : a ≤ 1000000000) (hb : b ≤ 1000000000) : nL a - nL a / nL b * nL b = nL (a % b) := by
  have e1 : nL (a / b) * nL b = nL (a / b * b) := (Int64.ofNat_mul (a / b) b).symm
  have e2 : nL (a % b) + nL (a / b * b) = nL (a % b + a / b * b) := (Int64.ofNat_add (a % b) (a / b * b)).symm
  have e3 : a % b + a / b * b = a := by
    have := Nat.div_add_mod a b
    rw [Nat.mul_comm] at this
    omega
  rw [e3] at e2
  rw [nL_div ha hb, e1, ← e2]
  exact Int64.add_sub_cancel _ _
theorem nL_nz {n : Nat} (h0 : 0 < n) (h : n ≤ 1000000000) : ¬ nL n = 0 := fun q => by
  have := congrArg Int64.toInt q
  rw [nL_toInt h, show (0 : Int64).toInt = 0 by decide] at this
  omega
theorem rg_100 {l : Nat} (hl : l ≤ 99) : rgN l 100 y = (if y = 0 then 100 - l else 100) / Nat.gcd 100 (100 - l) := by
  unfold rgN
  rw [show 10000 - l * 100 = 100 * (100 - l) by omega, show Nat.gcd 10000 (100 * (100 - l)) = 100 * Nat.gcd 100 (100 - l) from Nat.gcd_mul_left 100 100 (100 - l)]
  split
  · exact Nat.mul_div_mul_left _ _ (by decide)
  · show 100 * 100 / (100 * Nat.gcd 100 (100 - l)) = _
    exact Nat.mul_div_mul_left (m := 100) 100 _ (by decide)
/-- Euclid: the product halves -/
theorem half {a b : Nat} (hb : 0 < b) (hab : b ≤ a) : b * (a % b) * 2 ≤ a * b := by
  have e := Nat.div_add_mod a b
  have l := Nat.mod_lt a hb
  have q : 1 ≤ a / b := (Nat.one_le_div_iff hb).mpr hab
  have q2 := Nat.mul_le_mul_left b q
  have : a % b * 2 ≤ a := by omega
  calc b * (a % b) * 2 = b * (a % b * 2) := Nat.mul_assoc _ _ _
    _ ≤ b * a := Nat.mul_le_mul_left b this
    _ = a * b := Nat.mul_comm _ _
theorem N_cdiv {a b : Nat} (ha : 1 ≤ a) (ha2 : a ≤ 10000) (hb : b ≤ a) : zPa d mX11_commonDivisor [.inl (nI a), .inl (nI b)] h (fun v g => v = some (.inl (nI (Nat.gcd a b))) ∧ g = h) := by
  intro N
  have lp : ∀ (N u v j : Nat) (ls : zL), j ≤ 40 → 1 ≤ u → u ≤ 10000 → v ≤ u → u * v * 2 ^ j ≤ 100000000 → Nat.gcd u v = Nat.gcd a b → zget ls 2 = some (.inl (nI u)) → zget ls 3 = some (.inl (nI v)) → zget ls 4 = some (.inl (nI j)) → zPn N none d mX11_commonDivisor (7, ls, [], h) (fun v g => v = some (.inl (nI (Nat.gcd a b))) ∧ g = h) := by
    intro N
    induction N with
    | zero => intros; exact zPn.zero
    | succ N ih =>
      intro u v j ls hj hu hu2 hv hp hG hl2 hl3 hl4
      have out : v = 0 → zPn (N + 1) none d mX11_commonDivisor (34, ls, [], h) (fun v g => v = some (.inl (nI (Nat.gcd a b))) ∧ g = h) := fun e => by
        rw [e, Nat.gcd_zero_right] at hG
        refine pa_iload_n (pc' := 35) dX11_commonDivisor_34 hl2 rfl ?_
        refine pa_iconst (v := nI 1) (pc' := 36) dX11_commonDivisor_35 (by decide) rfl ?_
        refine pa_max (pc' := 39) dX11_commonDivisor_36 ml_11_408 (nI_max (by omega) (by omega)) rfl ?_
        refine pa_iret dX11_commonDivisor_39 rfl rfl ?_
        rw [Nat.max_eq_left hu, hG]
        exact ⟨rfl, rfl⟩
      refine pa_iload (pc' := 9) dX11_commonDivisor_7 hl4 rfl ?_
      refine pa_bipush (v := nI 40) (pc' := 11) dX11_commonDivisor_9 (by decide) rfl ?_
      refine pa_icmp (pc' := 34) (pc2 := 14) dX11_commonDivisor_11 (by decide) rfl (fun z => ?_) (fun z => ?_)
      · have z := zi_nlt (zk_ge_lt z)
        rw [nI_toInt (by omega), nI_toInt (by omega)] at z
        have e : j = 40 := by omega
        rw [e] at hp
        have : u * v = 0 := by
          generalize u * v = P at hp
          omega
        exact out ((Nat.mul_eq_zero.mp this).resolve_left (by omega))
      · have z := zi_lt (zk_ge_lt z)
        rw [nI_toInt (by omega), nI_toInt (by omega)] at z
        refine pa_iload_n (pc' := 15) dX11_commonDivisor_14 hl3 rfl ?_
        by_cases zv : v = 0
        · refine pa_if_t (pc' := 34) dX11_commonDivisor_15 (decide_eq_true (by rw [zv]; rfl)) (by decide) ?_
          exact out zv
        · refine pa_if_f (pc' := 18) dX11_commonDivisor_15 (decide_eq_false (nI_nz (by omega) (by omega))) (by decide) rfl ?_
          refine pa_iload_n (pc' := 19) dX11_commonDivisor_18 hl2 rfl ?_
          refine pa_iload_n (pc' := 20) dX11_commonDivisor_19 hl3 rfl ?_
          refine pa_irem (pc' := 21) (v := nI (u % v)) dX11_commonDivisor_20 (nI_nz (by omega) (by omega)) (nI_rem (by omega) (by omega)) rfl ?_
          refine pa_istore (pc' := 23) dX11_commonDivisor_21 (by decide) rfl rfl ?_
          refine pa_iload_n (pc' := 24) dX11_commonDivisor_23 (zget_s1 hl3 (by decide) (by simp [zcat])) rfl ?_
          refine pa_istore_n (pc' := 25) dX11_commonDivisor_24 (by decide) rfl rfl ?_
          refine pa_iload (pc' := 27) dX11_commonDivisor_25 (zget_s1 zget_s1e (by decide) (by simp [zcat])) rfl ?_
          refine pa_istore_n (pc' := 28) dX11_commonDivisor_27 (by decide) rfl rfl ?_
          refine pa_iinc (pc' := 31) (v := nI (j + 1)) dX11_commonDivisor_28 (zget_s1 (zget_s1 (zget_s1 hl4 (by decide) (by simp [zcat])) (by decide) (by simp [zcat])) (by decide) (by simp [zcat])) (by decide) (nI_add j 1) rfl rfl ?_
          refine pa_gotos (pc' := 7) dX11_commonDivisor_31 (by decide) ?_
          have lt := Nat.mod_lt u (show 0 < v by omega)
          have hf := half (a := u) (b := v) (by omega) hv
          refine ih v (u % v) (j + 1) _ (by omega) (by omega) (by omega) (by omega) ?_ ?_ (zget_s1 (zget_s1 zget_s1e (by decide) (by simp [zcat])) (by decide) (by simp [zcat])) (zget_s1 zget_s1e (by decide) (by simp [zcat])) zget_s1e
          · rw [Nat.pow_succ, Nat.mul_comm (2 ^ j) 2, ← Nat.mul_assoc]
            exact Nat.le_trans (Nat.mul_le_mul_right _ hf) hp
          · rw [← hG, Nat.gcd_comm v, ← Nat.gcd_rec, Nat.gcd_comm]
  show zPn N none d mX11_commonDivisor (0, [(0, .inl (nI a)), (1, .inl (nI b))], [], h) _
  refine pa_iload_n (pc' := 1) dX11_commonDivisor_0 rfl rfl ?_
  refine pa_istore_n (pc' := 2) dX11_commonDivisor_1 (by decide) rfl rfl ?_
  refine pa_iload_n (pc' := 3) dX11_commonDivisor_2 rfl rfl ?_
  refine pa_istore_n (pc' := 4) dX11_commonDivisor_3 (by decide) rfl rfl ?_
  refine pa_iconst (v := nI 0) (pc' := 5) dX11_commonDivisor_4 (by decide) rfl ?_
  refine pa_istore (pc' := 7) dX11_commonDivisor_5 (by decide) rfl rfl ?_
  have := Nat.mul_le_mul ha2 (show b ≤ 10000 by omega)
  exact lp _ a b 0 _ (by omega) ha ha2 hb (by rw [Nat.pow_zero, Nat.mul_one]; exact this) rfl rfl rfl rfl
theorem M_lowest {up dn : Nat} {f : Int32} (h1 : up ≤ 10000) (h2 : dn ≤ 10000) (h3 : 1 ≤ dn) : zPa d mX12_lowest [.inr (.inl (nL up)), .inr (.inl (nL dn)), .inl f] h (fun v g => v = some (.inr (.inl (nL ((if f = 0 then up else dn) / Nat.gcd dn up)))) ∧ g = h) := by
  intro N
  have gp : 0 < Nat.gcd dn up := Nat.gcd_pos_of_pos_left _ (by omega)
  have gl : Nat.gcd dn up ≤ dn := Nat.gcd_le_left _ (by omega)
  have lp : ∀ (N u v : Nat) (ls : zL), u ≤ 10000 → v ≤ 10000 → Nat.gcd u v = Nat.gcd dn up → zget ls 0 = some (.inr (.inl (nL up))) → zget ls 2 = some (.inr (.inl (nL dn))) → zget ls 4 = some (.inl f) → zget ls 5 = some (.inr (.inl (nL u))) → zget ls 7 = some (.inr (.inl (nL v))) → zPn N none d mX12_lowest (6, ls, [], h) (fun v g => v = some (.inr (.inl (nL ((if f = 0 then up else dn) / Nat.gcd dn up)))) ∧ g = h) := by
    intro N
    induction N with
    | zero => intros; exact zPn.zero
    | succ N ih =>
      intro u v ls hu hv hG hl0 hl2 hl4 hl5 hl7
      refine pa_lload (pc' := 8) dX12_lowest_6 hl7 rfl ?_
      refine pa_lconst (v := 0) (pc' := 9) dX12_lowest_8 rfl rfl ?_
      refine pa_lcmp (pc' := 10) dX12_lowest_9 rfl rfl ?_
      by_cases zv : v = 0
      · have c0 : lg_cmp (nL v) 0 = 0 := (cmp0 _ _).mpr (by rw [zv]; rfl)
        rw [c0]
        refine pa_if_t (pc' := 31) dX12_lowest_10 (by decide) (by decide) ?_
        rw [zv, Nat.gcd_zero_right] at hG
        have fin : ∀ q : Nat, q ≤ 10000 → (if f = 0 then up else dn) = q → zPn (N + 1) none d mX12_lowest (41, ls, [.inr (.inl (nL q))], h) (fun v g => v = some (.inr (.inl (nL ((if f = 0 then up else dn) / Nat.gcd dn up)))) ∧ g = h) := fun q hq e => by
          rw [e]
          refine pa_lload (pc' := 43) dX12_lowest_41 hl5 rfl ?_
          rw [hG]
          refine pa_ldiv (pc' := 44) (v := nL (q / Nat.gcd dn up)) dX12_lowest_43 (nL_nz gp (by omega)) (nL_div (by omega) (by omega)) rfl ?_
          exact pa_lret dX12_lowest_44 rfl ⟨rfl, rfl⟩
        refine pa_iload (pc' := 33) dX12_lowest_31 hl4 rfl ?_
        by_cases zf : f = 0
        · refine pa_if_t (pc' := 40) dX12_lowest_33 (decide_eq_true zf) (by decide) ?_
          refine pa_lload_n (pc' := 41) dX12_lowest_40 hl0 rfl ?_
          exact fin up h1 (if_pos zf)
        · refine pa_if_f (pc' := 36) dX12_lowest_33 (decide_eq_false zf) (by decide) rfl ?_
          refine pa_lload_n (pc' := 37) dX12_lowest_36 hl2 rfl ?_
          refine pa_goto (pc' := 41) dX12_lowest_37 (by decide) ?_
          exact fin dn h2 (if_neg zf)
      · have nz := nL_nz (show 0 < v by omega) (by omega)
        have c1 : ¬ lg_cmp (nL v) 0 = 0 := fun q => nz ((cmp0 _ _).mp q)
        have lt := Nat.mod_lt u (show 0 < v by omega)
        refine pa_if_f (pc' := 13) dX12_lowest_10 (decide_eq_false c1) (by decide) rfl ?_
        refine pa_lload (pc' := 15) dX12_lowest_13 hl5 rfl ?_
        refine pa_lload (pc' := 17) dX12_lowest_15 hl7 rfl ?_
        refine pa_lrem (pc' := 18) (v := nL (u % v)) dX12_lowest_17 nz (nL_rem (by omega) (by omega)) rfl ?_
        refine pa_lstore (pc' := 20) dX12_lowest_18 (by decide) rfl rfl ?_
        have f0 := zget_s2 (k := 9) (v := .inr (.inl (nL (u % v)))) hl0 (by decide) (by decide) (fun z => absurd z.1 (by decide))
        have f2 := zget_s2 (k := 9) (v := .inr (.inl (nL (u % v)))) hl2 (by decide) (by decide) (fun z => absurd z.1 (by decide))
        have f4 := zget_s2 (k := 9) (v := .inr (.inl (nL (u % v)))) hl4 (by decide) (by decide) (fun z => absurd z.1 (by decide))
        have f7 := zget_s2 (k := 9) (v := .inr (.inl (nL (u % v)))) hl7 (by decide) (by decide) (fun z => absurd z.1 (by decide))
        have f9 := zget_s2e (l := ls) (k := 9) (v := .inr (.inl (nL (u % v))))
        generalize zset2 ls 9 (.inr (.inl (nL (u % v)))) = ls1 at f0 f2 f4 f7 f9 ⊢
        refine pa_lload (pc' := 22) dX12_lowest_20 f7 rfl ?_
        refine pa_lstore (pc' := 24) dX12_lowest_22 (by decide) rfl rfl ?_
        have g0 := zget_s2 (k := 5) (v := .inr (.inl (nL v))) f0 (by decide) (by decide) (fun z => absurd z.1 (by decide))
        have g2 := zget_s2 (k := 5) (v := .inr (.inl (nL v))) f2 (by decide) (by decide) (fun z => absurd z.1 (by decide))
        have g4 := zget_s2 (k := 5) (v := .inr (.inl (nL v))) f4 (by decide) (by decide) (by simp [zcat])
        have g9 := zget_s2 (k := 5) (v := .inr (.inl (nL v))) f9 (by decide) (by decide) (fun z => absurd z.1 (by decide))
        have g5 := zget_s2e (l := ls1) (k := 5) (v := .inr (.inl (nL v)))
        generalize zset2 ls1 5 (.inr (.inl (nL v))) = ls2 at g0 g2 g4 g9 g5 ⊢
        refine pa_lload (pc' := 26) dX12_lowest_24 g9 rfl ?_
        refine pa_lstore (pc' := 28) dX12_lowest_26 (by decide) rfl rfl ?_
        refine pa_gotos (pc' := 6) dX12_lowest_28 (by decide) ?_
        refine ih v (u % v) _ hv (by omega) ?_ (zget_s2 g0 (by decide) (by decide) (fun z => absurd z.1 (by decide))) (zget_s2 g2 (by decide) (by decide) (fun z => absurd z.1 (by decide))) (zget_s2 g4 (by decide) (by decide) (fun z => absurd z.1 (by decide))) (zget_s2 g5 (by decide) (by decide) (fun z => absurd z.1 (by decide))) zget_s2e
        rw [← hG, Nat.gcd_comm v, ← Nat.gcd_rec, Nat.gcd_comm]
  show zPn N none d mX12_lowest (0, [(0, .inr (.inl (nL up))), (2, .inr (.inl (nL dn))), (4, .inl f)], [], h) _
  refine pa_lload_n (pc' := 1) dX12_lowest_0 rfl rfl ?_
  refine pa_lstore (pc' := 3) dX12_lowest_1 (by decide) rfl rfl ?_
  refine pa_lload_n (pc' := 4) dX12_lowest_3 rfl rfl ?_
  refine pa_lstore (pc' := 6) dX12_lowest_4 (by decide) rfl rfl ?_
  exact lp N dn up _ h2 h1 rfl rfl rfl rfl rfl rfl
theorem N_registered11 (z : lZ A c s H J h) (hi : lInv t h) : zPa d mX11_registered [.inr (.inr (some 0)), .inl x, .inl y] h (fun v _ => v = some (.inr (.inl (rgV A s x y)))) := by
  intro N
  have h1 := hi.2.2.2.2.1
  have hA := z.1.1
  have hT := z.1.2.1
  have hB := z.1.2.2
  have hI := hA.1
  have hN := z.2.1.1
  have K := hA.2.2.2.1
  have hc2 : c = 2 ∨ c = 42 := hA.2.1
  obtain ⟨b1, b2, b3, b4, b5⟩ := hI.2.2.1
  have s0 : zsh h 0 = some (11, 16) := zsh_by h1 (by decide +kernel)
  obtain ⟨sc, sc1, sc2, sc4, sc5, scw, scb⟩ := cSh hA.2.1 h1
  obtain ⟨c9, c12, c13, cw, cb⟩ := cRf_of hi.1 hA.2.1
  have S := hi.nw
  obtain ⟨⟨s86, s87, s88, s89, s90, s91⟩, r87, r88, r89, r90, r91⟩ := S.o86
  have r3 := hA.2.2.1
  have r6 := S.2.1
  obtain ⟨n1, n2, n3, n4⟩ := z.2.2.1.1
  show zPn N none d mX11_registered (0, [(0, .inr (.inr (some 0))), (1, .inl x), (2, .inl y)], [], h) _
  refine pa_aload_n (pc' := 1) dX11_registered_0 rfl rfl ?_
  refine pa_iload_n (pc' := 2) dX11_registered_1 rfl rfl ?_
  refine pa_callv (pc' := 5) (vs := [.inl x]) (rest := []) dX11_registered_2 ml_11_147 (by decide) rfl rfl rfl (fun d' _ => (N_isBox hA h1)) (fun v g9 hq => ?_)
  obtain ⟨ev, eh⟩ := hq
  subst ev
  rw [eh]
  show zPn N none d mX11_registered (5, _, [.inl (if 0 ≤ (x).toInt ∧ (x).toInt < (cB A:Int) then 1 else 0)], h) _
  by_cases hx : 0 ≤ x.toInt ∧ x.toInt < (cB A : Int)
  case neg =>
    rw [if_neg hx]
    refine pa_if_f (pc' := 8) dX11_registered_5 (by decide) (by decide) rfl ?_
    refine pa_aload_n (pc' := 9) dX11_registered_8 rfl rfl ?_
    refine pa_iconst (v := nI 1) (pc' := 10) dX11_registered_9 (by decide) rfl ?_
    refine pa_callv (pc' := 13) (vs := [.inl (nI 1)]) (rest := []) dX11_registered_10 ml_11_98 (by decide) rfl rfl rfl (fun d' _ => (c_ref s0)) (fun v g hq => ?_)
    obtain ⟨ev, eh⟩ := hq
    subst ev
    show zPn N none d mX11_registered (13, _, [.inl ((-1))], g) _
    refine pa_i2l (pc' := 14) dX11_registered_13 rfl rfl ?_
    refine pa_lret dX11_registered_14 rfl ?_
    unfold rgV
    rw [if_neg hx]
  rw [if_pos hx]
  obtain ⟨b, rfl, hb, eb⟩ := nI_ob hx.1 hx.2
  have B := z.bc hi (hA.has hb)
  have r8 := hi.r8
  have V : rgV A s (nI b) y = Int32.toInt64 (rgI A s b y) := by
    unfold rgV
    rw [if_pos hx, eb]
  rw [V]
  clear V
  have fin : ∀ (O L : Nat) (g : zH), 1 ≤ O → O ≤ 10000 → L < O → zsh g 0 = some (11, 16) → rgI A s b y = nI ((if y = 0 then O - L else O) / Nat.gcd O (O - L)) → ∀ (N : Nat) (ls : zL), zget ls 0 = some (.inr (.inr (some 0))) → zget ls 2 = some (.inl y) → zget ls 4 = some (.inl (nI L)) → zget ls 5 = some (.inl (nI O)) → zPn N none d mX11_registered (101, ls, [], g) (fun v _ => v = some (.inr (.inl (Int32.toInt64 (rgI A s b y))))) := fun O L g hO hO2 hL t0 e N ls hl0 hl2 hl4 hl5 => by
    have gp : 0 < Nat.gcd O (O - L) := Nat.gcd_pos_of_pos_left _ (by omega)
    have gl : Nat.gcd O (O - L) ≤ O := Nat.gcd_le_left _ (by omega)
    rw [e]
    refine pa_iload (pc' := 103) dX11_registered_101 hl5 rfl ?_
    refine pa_iload (pc' := 105) dX11_registered_103 hl5 rfl ?_
    refine pa_iload (pc' := 107) dX11_registered_105 hl4 rfl ?_
    refine pa_isub (pc' := 108) (v := nI (O - L)) dX11_registered_107 (nI_sub (by omega)) rfl ?_
    refine pa_calls (pc' := 111) (kd := 1) (vs := [.inl (nI O), .inl (nI (O - L))]) (rest := []) dX11_registered_108 ml_11_295 (.inl rfl) rfl rfl rfl (fun d' _ => (N_cdiv hO hO2 (Nat.sub_le _ _))) (fun v g9 hq => ?_)
    obtain ⟨ev, eh⟩ := hq
    subst ev
    rw [eh]
    show zPn N none d mX11_registered (111, _, [.inl (nI (Nat.gcd O (O - L)))], g) _
    refine pa_istore (pc' := 113) dX11_registered_111 (by decide) rfl rfl ?_
    refine pa_aload_n (pc' := 114) dX11_registered_113 (zget_s1 hl0 (by decide) (by simp [zcat])) rfl ?_
    refine pa_iload_n (pc' := 115) dX11_registered_114 (zget_s1 hl2 (by decide) (by simp [zcat])) rfl ?_
    by_cases zy : y = 0
    · rw [if_pos zy]
      refine pa_if_t (pc' := 123) dX11_registered_115 (decide_eq_true zy) (by decide) ?_
      refine pa_iload (pc' := 125) dX11_registered_123 (zget_s1 hl5 (by decide) (by simp [zcat])) rfl ?_
      refine pa_iload (pc' := 127) dX11_registered_125 (zget_s1 hl4 (by decide) (by simp [zcat])) rfl ?_
      refine pa_isub (pc' := 128) (v := nI (O - L)) dX11_registered_127 (nI_sub (by omega)) rfl ?_
      refine pa_iload (pc' := 130) dX11_registered_128 zget_s1e rfl ?_
      refine pa_idiv (pc' := 131) (v := nI ((O - L) / Nat.gcd O (O - L))) dX11_registered_130 (nI_nz gp (by omega)) (nI_div (by omega) (by omega)) rfl ?_
      refine pa_callv (pc' := 134) (vs := [.inl (nI ((O - L) / Nat.gcd O (O - L)))]) (rest := []) dX11_registered_131 ml_11_112 (by decide) rfl rfl rfl (fun d' _ => (c_gra t0)) (fun v g9 hq => ?_)
      obtain ⟨ev, eh⟩ := hq
      subst ev
      show zPn N none d mX11_registered (134, _, [.inl (nI (((O - L) / Nat.gcd O (O - L))))], g9) _
      refine pa_i2l (pc' := 135) dX11_registered_134 rfl rfl ?_
      refine pa_lret dX11_registered_135 rfl ?_
      rfl
    · rw [if_neg zy]
      refine pa_if_f (pc' := 118) dX11_registered_115 (decide_eq_false zy) (by decide) rfl ?_
      refine pa_iload (pc' := 120) dX11_registered_118 (zget_s1 hl5 (by decide) (by simp [zcat])) rfl ?_
      refine pa_goto (pc' := 128) dX11_registered_120 (by decide) ?_
      refine pa_iload (pc' := 130) dX11_registered_128 zget_s1e rfl ?_
      refine pa_idiv (pc' := 131) (v := nI (O / Nat.gcd O (O - L))) dX11_registered_130 (nI_nz gp (by omega)) (nI_div (by omega) (by omega)) rfl ?_
      refine pa_callv (pc' := 134) (vs := [.inl (nI (O / Nat.gcd O (O - L)))]) (rest := []) dX11_registered_131 ml_11_112 (by decide) rfl rfl rfl (fun d' _ => (c_gra t0)) (fun v g9 hq => ?_)
      obtain ⟨ev, eh⟩ := hq
      subst ev
      show zPn N none d mX11_registered (134, _, [.inl (nI ((O / Nat.gcd O (O - L))))], g9) _
      refine pa_i2l (pc' := 135) dX11_registered_134 rfl rfl ?_
      refine pa_lret dX11_registered_135 rfl ?_
      rfl
  refine pa_if_t (pc' := 15) dX11_registered_5 (by decide) (by decide) ?_
  refine pa_aload_n (pc' := 16) dX11_registered_15 rfl rfl ?_
  refine pa_getR (pc' := 19) (n := 16) (r := 94) dX11_registered_16 fl_11_60 s0 (by decide) r8 rfl ?_
  refine pa_iload_n (pc' := 20) dX11_registered_19 rfl rfl ?_
  refine pa_bipush (v := (-2)) (pc' := 22) dX11_registered_20 (by decide) rfl ?_
  refine pa_callv (pc' := 25) (vs := [.inl (nI b), .inl ((-2))]) (rest := []) dX11_registered_22 ml_11_289 (by decide) rfl rfl rfl (fun d' _ => (N_surest (but := none) B K hb (fun q e => nomatch e))) (fun v g1 hq => ?_)
  obtain ⟨ev, eh⟩ := hq
  subst ev
  show zPn N none d mX11_registered (25, _, [.inl (buV (suF A s b none (cH A)))], g1) _
  refine pa_istore_n (pc' := 26) dX11_registered_25 (by decide) rfl rfl ?_
  refine pa_iload_n (pc' := 27) dX11_registered_26 rfl rfl ?_
  refine pa_bipush (v := (-2)) (pc' := 29) dX11_registered_27 (by decide) rfl ?_
  have F1 := eh
  have t0 : zsh g1 0 = some (11, 16) := zsh_by (F1.1.trans h1) (by decide +kernel)
  cases o1 : suF A s b none (cH A) with
  | none =>
    have e : rgI A s b y = -1 := by
      unfold rgI
      rw [o1]
    refine pa_icmp_f (pc' := 32) dX11_registered_29 (show zcond .ne (buV none) (-2) = false by decide) (by decide) rfl ?_
    refine pa_aload_n (pc' := 33) dX11_registered_32 rfl rfl ?_
    refine pa_bipush (v := nI 6) (pc' := 35) dX11_registered_33 (by decide) rfl ?_
    refine pa_callv (pc' := 38) (vs := [.inl (nI 6)]) (rest := []) dX11_registered_35 ml_11_98 (by decide) rfl rfl rfl (fun d' _ => (c_ref t0)) (fun v g9 hq => ?_)
    obtain ⟨ev, eh⟩ := hq
    subst ev
    show zPn N none d mX11_registered (38, _, [.inl ((-1))], g9) _
    refine pa_i2l (pc' := 39) dX11_registered_38 rfl rfl ?_
    refine pa_lret dX11_registered_39 rfl ?_
    rw [e]
  | some p =>
    obtain ⟨hp, -⟩ := suF_in (cH A) p o1
    have B1 := B.fr F1
    have K1 := K.f3 hI hc2 F1
    obtain ⟨-, -, -, l99, wv⟩ := num_whale hI hB hT hp
    have e3 : g1.2.1 (c + 19 + p) 3 = nI (nu A (110 + 4 * p)) := by
      rw [K1.wh (j := 3) hT hI hp (by decide), wv 3 (by decide), show 107 + 4 * p + 3 = 110 + 4 * p by omega]
    obtain ⟨sc', -, sc4', -, sw', -⟩ := B1.sh
    have sp' := sw' p (by omega)
    have q3 : g1.2.2.2.1 0 3 = some c := by rw [F1.2.1]; exact r3
    have q8 : g1.2.2.2.1 0 8 = some 94 := by rw [F1.2.1]; exact r8
    have q12 := B1.2.2.2.2.1.2.2.2.2.2.1
    have qp := B1.2.2.2.2.1.2.2.2.2.2.2.2.1 p (by omega)
    rw [show buV (some p) = nI p from rfl]
    refine pa_icmp_t (pc' := 40) dX11_registered_29 (decide_eq_true (n2ne (by omega))) (by decide) ?_
    refine pa_aload_n (pc' := 41) dX11_registered_40 rfl rfl ?_
    refine pa_getR (pc' := 44) (n := 16) (r := c) dX11_registered_41 fl_11_23 t0 (by decide) q3 rfl ?_
    refine pa_getR (pc' := 47) (n := 15) (r := c + 4) dX11_registered_44 fl_11_125 sc' (by decide) q12 rfl ?_
    refine pa_iload_n (pc' := 48) dX11_registered_47 rfl rfl ?_
    refine pa_aald (pc' := 49) (r := c + 19 + p) dX11_registered_48 sc4' (by decide) (zn_in (by omega) (by omega)) (by rw [nI_clamp (by omega)]; exact qp) rfl ?_
    refine pa_getI (pc' := 52) (n := 4) (v := nI (nu A (110 + 4 * p))) dX11_registered_49 fl_11_144 sp' (by decide) e3 rfl ?_
    refine pa_istore (pc' := 54) dX11_registered_52 (by decide) rfl rfl ?_
    refine pa_bipush (v := nI 100) (pc' := 56) dX11_registered_54 (by decide) rfl ?_
    refine pa_istore (pc' := 58) dX11_registered_56 (by decide) rfl rfl ?_
    refine pa_aload_n (pc' := 59) dX11_registered_58 rfl rfl ?_
    refine pa_getR (pc' := 62) (n := 16) (r := 94) dX11_registered_59 fl_11_60 t0 (by decide) q8 rfl ?_
    refine pa_iload_n (pc' := 63) dX11_registered_62 rfl rfl ?_
    refine pa_iload_n (pc' := 64) dX11_registered_63 rfl rfl ?_
    refine pa_callv (pc' := 67) (vs := [.inl (nI b), .inl (nI p)]) (rest := []) dX11_registered_64 ml_11_289 (by decide) rfl rfl rfl (fun d' _ => (N_surest (but := some p) B1 K1 hb (fun q e => by cases e; omega))) (fun v g2 hq => ?_)
    obtain ⟨ev, eh⟩ := hq
    subst ev
    show zPn N none d mX11_registered (67, _, [.inl (buV (suF A s b (some p) (cH A)))], g2) _
    refine pa_istore (pc' := 69) dX11_registered_67 (by decide) rfl rfl ?_
    refine pa_iload (pc' := 71) dX11_registered_69 rfl rfl ?_
    refine pa_bipush (v := (-2)) (pc' := 73) dX11_registered_71 (by decide) rfl ?_
    have F2 := F1.tr eh
    have u0 : zsh g2 0 = some (11, 16) := zsh_by (F2.1.trans h1) (by decide +kernel)
    cases o2 : suF A s b (some p) (cH A) with
    | none =>
      have e : rgI A s b y = nI ((if y = 0 then 100 - nu A (110 + 4 * p) else 100) / Nat.gcd 100 (100 - nu A (110 + 4 * p))) := by
        unfold rgI
        rw [o1]
        dsimp only
        rw [o2]
        show nI (rgN (nu A (110 + 4 * p)) 100 y) = _
        rw [rg_100 l99]
      refine pa_icmp_t (pc' := 101) dX11_registered_73 (show zcond .eq (buV none) (-2) = true by decide) (by decide) ?_
      exact fin 100 (nu A (110 + 4 * p)) g2 (by decide) (by decide) (by omega) u0 e _ _ rfl rfl rfl rfl
    | some q =>
      obtain ⟨hq, -⟩ := suF_in (cH A) q o2
      have B2 := B.fr F2
      have K2 := K.f3 hI hc2 F2
      obtain ⟨-, -, -, m99, wq⟩ := num_whale hI hB hT hq
      have m3 : g2.2.1 (c + 19 + q) 3 = nI (nu A (110 + 4 * q)) := by
        rw [K2.wh (j := 3) hT hI hq (by decide), wq 3 (by decide), show 107 + 4 * q + 3 = 110 + 4 * q by omega]
      obtain ⟨sd', -, sd4', -, sv', -⟩ := B2.sh
      have sq' := sv' q (by omega)
      have p3 : g2.2.2.2.1 0 3 = some c := by rw [F2.2.1]; exact r3
      have p12 := B2.2.2.2.2.1.2.2.2.2.2.1
      have pq := B2.2.2.2.2.1.2.2.2.2.2.2.2.1 q (by omega)
      have lm : nu A (110 + 4 * p) * nu A (110 + 4 * q) ≤ 99 * 99 := Nat.mul_le_mul l99 m99
      have e : rgI A s b y = nI ((if y = 0 then 10000 - nu A (110 + 4 * p) * nu A (110 + 4 * q) else 10000) / Nat.gcd 10000 (10000 - nu A (110 + 4 * p) * nu A (110 + 4 * q))) := by
        unfold rgI
        rw [o1]
        dsimp only
        rw [o2]
        rfl
      rw [show buV (some q) = nI q from rfl]
      refine pa_icmp_f (pc' := 76) dX11_registered_73 (decide_eq_false (n2ne (by omega))) (by decide) rfl ?_
      refine pa_iload (pc' := 78) dX11_registered_76 rfl rfl ?_
      refine pa_aload_n (pc' := 79) dX11_registered_78 rfl rfl ?_
      refine pa_getR (pc' := 82) (n := 16) (r := c) dX11_registered_79 fl_11_23 u0 (by decide) p3 rfl ?_
      refine pa_getR (pc' := 85) (n := 15) (r := c + 4) dX11_registered_82 fl_11_125 sd' (by decide) p12 rfl ?_
      refine pa_iload (pc' := 87) dX11_registered_85 zget_s1e rfl ?_
      refine pa_aald (pc' := 88) (r := c + 19 + q) dX11_registered_87 sd4' (by decide) (zn_in (by omega) (by omega)) (by rw [nI_clamp (by omega)]; exact pq) rfl ?_
      refine pa_getI (pc' := 91) (n := 4) (v := nI (nu A (110 + 4 * q))) dX11_registered_88 fl_11_144 sq' (by decide) m3 rfl ?_
      refine pa_imul (pc' := 92) (v := nI ((nu A (110 + 4 * p)) * (nu A (110 + 4 * q)))) dX11_registered_91 (nI_mul _ _) rfl ?_
      refine pa_istore (pc' := 94) dX11_registered_92 (by decide) rfl rfl ?_
      refine pa_iload (pc' := 96) dX11_registered_94 rfl rfl ?_
      refine pa_bipush (v := nI 100) (pc' := 98) dX11_registered_96 (by decide) rfl ?_
      refine pa_imul (pc' := 99) (v := nI (100 * 100)) dX11_registered_98 (nI_mul _ _) rfl ?_
      refine pa_istore (pc' := 101) dX11_registered_99 (by decide) rfl rfl ?_
      rw [show 100 * 100 = 10000 from rfl]
      exact fin 10000 (nu A (110 + 4 * p) * nu A (110 + 4 * q)) g2 (by decide) (by decide) (by omega) u0 e _ _ rfl rfl (zget_s1 zget_s1e (by decide) (by simp [zcat])) zget_s1e
theorem N_registered12 (z : lZ A c s H J g) (m : lMid kk im t g h) : zPa d mX12_registered [.inr (.inr (some 196)), .inl x, .inl y] h (fun v _ => v = some (.inr (.inl (rgV A s x y)))) := by
  intro N
  have s196 : zsh h 196 = some (12, 39) := zsh_by m.2.1.2.2.2 (by decide +kernel)
  generalize eg : zsI (zsI h 196 0 0) 196 11 0 = h2
  have e2 : ∀ a k, a ≠ 196 → h2.2.1 a k = h.2.1 a k := fun a k ha => by rw [← eg, zsI_no (by omega), zsI_no (by omega)]
  have e3 : ∀ k, k ≠ 0 → k ≠ 11 → h2.2.1 196 k = h.2.1 196 k := fun k w1 w2 => by rw [← eg, zsI_no (by omega), zsI_no (by omega)]
  have h1 : h2.1 = hh_487.1 := by rw [← eg]; exact m.2.1.2.2.2
  have hA : lPA A c h2 := by rw [← eg]; exact (m.pa z.1.1).gd
  have B : cI A ≠ 0 → bgM A s h2 := fun ne => by rw [← eg]; exact (z.bm m ne).gd
  have er : h2.2.2.2.1 = h.2.2.2.1 := by rw [← eg]; rfl
  have q15 : h2.2.2.2.1 196 15 = some 199 := by rw [er]; exact m.r15
  have q17 : h2.2.2.2.1 196 17 = some 201 := by rw [er]; exact m.mw.2.1
  have z196 : zsh h2 196 = some (12, 39) := zsh_by h1 (by decide +kernel)
  have z199 : zsh h2 199 = some (14, 363) := zsh_by h1 (by decide +kernel)
  have z201 : zsh h2 201 = some (14, 76) := zsh_by h1 (by decide +kernel)
  have M : nMo A s 201 0 h2 := (z.lm m).1.1.fr (fun k => e2 _ _ (by decide))
  have hT := z.1.2.1
  have hB := z.1.2.2
  have hI := z.1.1.1
  have hN := z.2.1.1
  have k0 : (0 : Int32).toInt = 0 := by decide
  obtain ⟨b1, b2, b3, b4, b5⟩ := hI.2.2.1
  show zPn N none d mX12_registered (0, [(0, .inr (.inr (some 196))), (1, .inl x), (2, .inl y)], [], h) _
  refine pa_aload_n (pc' := 1) dX12_registered_0 rfl rfl ?_
  refine pa_callv (pc' := 4) (vs := []) (rest := []) dX12_registered_1 ml_12_167 (by decide) rfl rfl rfl (fun d' _ => (m_good s196)) (fun v h3 hq => ?_)
  obtain ⟨ev, eh⟩ := hq
  subst ev
  show zPn N none d mX12_registered (4, _, [], h3) _
  rw [eg] at eh
  subst eh
  refine pa_aload_n (pc' := 5) dX12_registered_4 rfl rfl ?_
  refine pa_iload_n (pc' := 6) dX12_registered_5 rfl rfl ?_
  refine pa_callv (pc' := 9) (vs := [.inl x]) (rest := []) dX12_registered_6 ml_12_274 (by decide) rfl rfl rfl (fun d' _ => (M_isBox hA q15 h1)) (fun v g9 hq => ?_)
  obtain ⟨ev, eh⟩ := hq
  subst ev
  rw [eh]
  show zPn N none d mX12_registered (9, _, [.inl (if 0 ≤ (x).toInt ∧ (x).toInt < (cB A:Int) then 1 else 0)], h3) _
  by_cases hx : 0 ≤ x.toInt ∧ x.toInt < (cB A : Int)
  case neg =>
    rw [if_neg hx]
    refine pa_if_f (pc' := 12) dX12_registered_9 (by decide) (by decide) rfl ?_
    refine pa_aload_n (pc' := 13) dX12_registered_12 rfl rfl ?_
    refine pa_iconst (v := nI 1) (pc' := 14) dX12_registered_13 (by decide) rfl ?_
    refine pa_callv (pc' := 17) (vs := [.inl (nI 1)]) (rest := []) dX12_registered_14 ml_12_170 (by decide) rfl rfl rfl (fun d' _ => (m_no z196)) (fun v g hq => ?_)
    obtain ⟨ev, eh⟩ := hq
    subst ev
    show zPn N none d mX12_registered (17, _, [.inl ((-1))], g) _
    refine pa_i2l (pc' := 18) dX12_registered_17 rfl rfl ?_
    refine pa_lret dX12_registered_18 rfl ?_
    unfold rgV
    rw [if_neg hx]
  rw [if_pos hx]
  obtain ⟨b, rfl, hb, eb⟩ := nI_ob hx.1 hx.2
  have B := B (hA.has hb)
  have e6 := M_6 hA (hA.has hb)
  have V : rgV A s (nI b) y = Int32.toInt64 (rgI A s b y) := by
    unfold rgV
    rw [if_pos hx, eb]
  rw [V]
  clear V
  have fin : ∀ (l1 l2 : Nat) (g : zH), l1 ≤ 99 → l2 ≤ 100 → rgI A s b y = nI (rgN l1 l2 y) → ∀ (N : Nat) (ls : zL), zget ls 0 = some (.inr (.inr (some 196))) → zget ls 2 = some (.inl y) → zPn N none d mX12_registered (69, ls, [.inl (nI l2), .inl (nI l1)], g) (fun v _ => v = some (.inr (.inl (Int32.toInt64 (rgI A s b y))))) := fun l1 l2 g h1 h2 e N ls hl0 hl2 => by
    have lm : l1 * l2 ≤ 99 * 100 := Nat.mul_le_mul h1 h2
    have hq : (if y = 0 then 10000 - l1 * l2 else 10000) / Nat.gcd 10000 (10000 - l1 * l2) ≤ 10000 := Nat.le_trans (Nat.div_le_self _ _) (by split <;> omega)
    rw [e]
    unfold rgN
    rw [← nL_nI (Nat.le_trans hq (by decide))]
    refine pa_imul (pc' := 70) (v := nI (l1 * l2)) dX12_registered_69 (nI_mul _ _) rfl ?_
    refine pa_istore (pc' := 72) dX12_registered_70 (by decide) rfl rfl ?_
    refine pa_sipush (v := nI 10000) (pc' := 75) dX12_registered_72 (by decide) rfl ?_
    refine pa_iload (pc' := 77) dX12_registered_75 zget_s1e rfl ?_
    refine pa_isub (pc' := 78) (v := nI (10000 - (l1 * l2))) dX12_registered_77 (nI_sub (by omega)) rfl ?_
    refine pa_i2l (pc' := 79) dX12_registered_78 rfl rfl ?_
    refine pa_ldc2 (pc' := 82) dX12_registered_79 cl_12_373 rfl rfl ?_
    refine pa_iload_n (pc' := 83) dX12_registered_82 (zget_s1 hl2 (by decide) (by simp [zcat])) rfl ?_
    rw [← nL_nI (n := 10000 - l1 * l2) (by omega), show (10000 : Int64) = nL 10000 by decide]
    refine pa_calls (pc' := 86) (kd := 1) (vs := [.inr (.inl (nL (10000 - l1 * l2))), .inr (.inl (nL 10000)), .inl y]) (rest := []) dX12_registered_83 ml_12_375 (.inl rfl) rfl rfl rfl (fun d' _ => (M_lowest (by omega) (by decide) (by decide))) (fun v g9 hq => ?_)
    obtain ⟨ev, eh⟩ := hq
    subst ev
    rw [eh]
    show zPn N none d mX12_registered (86, _, [.inr (.inl (nL ((if y = 0 then 10000 - l1 * l2 else 10000) / Nat.gcd 10000 (10000 - l1 * l2))))], g) _
    refine pa_lret dX12_registered_86 rfl ?_
    rfl
  refine pa_if_t (pc' := 19) dX12_registered_9 (by decide) (by decide) ?_
  refine pa_aload_n (pc' := 20) dX12_registered_19 rfl rfl ?_
  refine pa_iload_n (pc' := 21) dX12_registered_20 rfl rfl ?_
  refine pa_iconst (v := (-1)) (pc' := 22) dX12_registered_21 (by decide) rfl ?_
  refine pa_callv (pc' := 25) (vs := [.inl (nI b), .inl ((-1))]) (rest := []) dX12_registered_22 ml_12_370 (by decide) rfl rfl rfl (fun d' _ => (M_surest (but := none) B e6 hb m1_no)) (fun v g1 hq => ?_)
  obtain ⟨ev, eh⟩ := hq
  subst ev
  show zPn N none d mX12_registered (25, _, [.inl (buV (suF A s b none (cH A)))], g1) _
  refine pa_istore_n (pc' := 26) dX12_registered_25 (by decide) rfl rfl ?_
  refine pa_iload_n (pc' := 27) dX12_registered_26 rfl rfl ?_
  have F1 := eh
  have B1 := B.fr F1
  have t196 := sh_196' B1.2.1.1
  have f6 : g1.2.1 199 6 = nI (cH A) := (F1.2.2 199 6 (by decide) (by decide) (by decide)).trans e6
  cases o1 : suF A s b none (cH A) with
  | none =>
    have e : rgI A s b y = -1 := by
      unfold rgI
      rw [o1]
    refine pa_if_f (pc' := 30) dX12_registered_27 (show zcond .ge (buV none) 0 = false by decide) (by decide) rfl ?_
    refine pa_aload_n (pc' := 31) dX12_registered_30 rfl rfl ?_
    refine pa_bipush (v := nI 6) (pc' := 33) dX12_registered_31 (by decide) rfl ?_
    refine pa_callv (pc' := 36) (vs := [.inl (nI 6)]) (rest := []) dX12_registered_33 ml_12_170 (by decide) rfl rfl rfl (fun d' _ => (m_no t196)) (fun v g9 hq => ?_)
    obtain ⟨ev, eh⟩ := hq
    subst ev
    show zPn N none d mX12_registered (36, _, [.inl ((-1))], g9) _
    refine pa_i2l (pc' := 37) dX12_registered_36 rfl rfl ?_
    refine pa_lret dX12_registered_37 rfl ?_
    rw [e]
  | some p =>
    obtain ⟨hp, -⟩ := suF_in (cH A) p o1
    obtain ⟨-, -, -, l99, wv⟩ := num_whale hI hB hT hp
    have bp : ∀ w : Nat, w < 5 → (nI p = nI w ↔ some w = some p) := fun w hw => ⟨fun q => by rw [(nI_eq (by omega) (by omega)).mp q], fun q => by rw [Option.some.inj q]⟩
    rw [show buV (some p) = nI p from rfl]
    refine pa_if_t (pc' := 38) dX12_registered_27 (zk_lt_ge (b := false) (zlt_f (n2ge (by omega)))) (by decide) ?_
    refine pa_aload_n (pc' := 39) dX12_registered_38 rfl rfl ?_
    refine pa_iload_n (pc' := 40) dX12_registered_39 rfl rfl ?_
    refine pa_iload_n (pc' := 41) dX12_registered_40 rfl rfl ?_
    refine pa_callv (pc' := 44) (vs := [.inl (nI b), .inl (nI p)]) (rest := []) dX12_registered_41 ml_12_370 (by decide) rfl rfl rfl (fun d' _ => (M_surest (but := some p) B1 f6 hb bp)) (fun v g2 hq => ?_)
    obtain ⟨ev, eh⟩ := hq
    subst ev
    show zPn N none d mX12_registered (44, _, [.inl (buV (suF A s b (some p) (cH A)))], g2) _
    refine pa_istore (pc' := 46) dX12_registered_44 (by decide) rfl rfl ?_
    have B2 := B1.fr eh
    refine pa_aload_n (pc' := 47) dX12_registered_46 rfl rfl ?_
    refine pa_iload_n (pc' := 48) dX12_registered_47 rfl rfl ?_
    refine pa_iconst (v := nI 3) (pc' := 49) dX12_registered_48 (by decide) rfl ?_
    refine pa_callv (pc' := 52) (vs := [.inl (nI p), .inl (nI 3)]) (rest := []) dX12_registered_49 ml_12_271 (by decide) rfl rfl rfl (fun d' _ => (M_ofWhale (j := 3) B2 hp (by decide))) (fun v g9 hq => ?_)
    obtain ⟨ev, eh⟩ := hq
    subst ev
    rw [eh]
    show zPn N none d mX12_registered (52, _, [.inl (vA A (107 + 4 * p + 3))], g2) _
    rw [wv 3 (by decide), show 107 + 4 * p + 3 = 110 + 4 * p by omega]
    refine pa_iload (pc' := 54) dX12_registered_52 rfl rfl ?_
    cases o2 : suF A s b (some p) (cH A) with
    | none =>
      have e : rgI A s b y = nI (rgN (nu A (110 + 4 * p)) 100 y) := by
        unfold rgI
        rw [o1]
        dsimp only
        rw [o2]
        rfl
      refine pa_if_f (pc' := 57) dX12_registered_54 (show zcond .ge (buV none) 0 = false by decide) (by decide) rfl ?_
      refine pa_bipush (v := nI 100) (pc' := 59) dX12_registered_57 (by decide) rfl ?_
      refine pa_goto (pc' := 69) dX12_registered_59 (by decide) ?_
      exact fin _ 100 g2 l99 (by decide) e _ _ rfl rfl
    | some q =>
      obtain ⟨hq, -⟩ := suF_in (cH A) q o2
      obtain ⟨-, -, -, m99, wq⟩ := num_whale hI hB hT hq
      have e : rgI A s b y = nI (rgN (nu A (110 + 4 * p)) (nu A (110 + 4 * q)) y) := by
        unfold rgI
        rw [o1]
        dsimp only
        rw [o2]
        rfl
      rw [show buV (some q) = nI q from rfl]
      refine pa_if_t (pc' := 62) dX12_registered_54 (zk_lt_ge (b := false) (zlt_f (n2ge (by omega)))) (by decide) ?_
      refine pa_aload_n (pc' := 63) dX12_registered_62 rfl rfl ?_
      refine pa_iload (pc' := 65) dX12_registered_63 zget_s1e rfl ?_
      refine pa_iconst (v := nI 3) (pc' := 66) dX12_registered_65 (by decide) rfl ?_
      refine pa_callv (pc' := 69) (vs := [.inl (nI q), .inl (nI 3)]) (rest := [.inl (nI (nu A (110 + 4 * p)))]) dX12_registered_66 ml_12_271 (by decide) rfl rfl rfl (fun d' _ => (M_ofWhale (j := 3) B2 hq (by decide))) (fun v g9 hq => ?_)
      obtain ⟨ev, eh⟩ := hq
      subst ev
      rw [eh]
      show zPn N none d mX12_registered (69, _, [.inl (vA A (107 + 4 * q + 3)), .inl (nI (nu A (110 + 4 * p)))], g2) _
      rw [wq 3 (by decide), show 107 + 4 * q + 3 = 110 + 4 * q by omega]
      exact fin _ _ g2 l99 (by omega) e _ _ rfl rfl
end AN15
/-! answers: round, roundAt -/
abbrev roX : Type := Nat → Nat → Nat
/-- a step over k from i to j -/
def fwF (n k i j : Nat) (M : roX) : roX := if i = j ∨ i = k ∨ k = j ∨ n ≤ i ∨ n ≤ j ∨ n ≤ k then M else if M i k + M k j < M i j then (fun p q => if p = i ∧ q = j then M i k + M k j else M p q) else M
def fwJ (n k i : Nat) (M : roX) : Nat → roX
  | 0 => M
  | j + 1 => fwF n k i j (fwJ n k i M j)
def fwI (n k : Nat) (M : roX) : Nat → roX
  | 0 => M
  | i + 1 => fwJ n k i (fwI n k M i) n
def fwK (n : Nat) (M : roX) : Nat → roX
  | 0 => M
  | k + 1 => fwI n k (fwK n M k) n
def dyO (A : pA) : Option Nat → Nat
  | some k => dyA A k
  | none => 1000000
def roI (A : pA) (cl : Int32) (k : Nat) : roX := fun i j => dyO A (fsF (joF A cl i j) k)
/-- the shortest, whatever the season -/
def roM (A : pA) (cl : Int32) : roX := fwK (cI A) (roI A cl (cW A)) (cI A)
def cvS (M : roX) (f : Nat → Nat → Nat) (u l : Nat) : Nat → Nat
  | 0 => 1000000
  | i + 1 => if u.testBit i = true then cvS M f u l i else min (cvS M f u l i) (M l i + f (u ||| 2 ^ i) i)
def cvF (n : Nat) (M : roX) : Nat → Nat → Nat → Nat
  | 0 => fun _ _ => 0
  | r + 1 => fun u l => cvS M (cvF n M r) u l n
def ncS (M : roX) (f : Nat → Nat → Nat) (u l V : Nat) : Nat → Option Nat
  | 0 => none
  | i + 1 => match ncS M f u l V i with
    | some k => some k
    | none => if u.testBit i = false ∧ M l i + f (u ||| 2 ^ i) i = V then some i else none
def nxF (n : Nat) (M : roX) (r u l : Nat) : Nat := (ncS M (cvF n M r) u l (cvF n M (r + 1) u l) n).getD l
def oaF (n : Nat) (M : roX) : Nat → Nat → Nat → Nat → Nat
  | 0, _, _, _ => 0
  | r + 1, u, l, p => if p = n - (r + 1) then nxF n M r u l else oaF n M r (u ||| 2 ^ nxF n M r u l) (nxF n M r u l) p
def rpc (X : Nat) : Nat → Nat
  | 0 => 0
  | k + 1 => rpc X k + if X.testBit k = true then 1 else 0
def roT (A : pA) (s : nS) (i : Nat) : Nat := cvF (cI A) (roM A s.2.1) (cI A - 1) (2 ^ i) i
def roO (A : pA) (s : nS) (i k : Nat) : Nat := if k = 0 then i else oaF (cI A) (roM A s.2.1) (cI A - 1) (2 ^ i) i k
def roV (A : pA) (s : nS) (x : Int32) : Int32 := if 0 ≤ x.toInt ∧ x.toInt < (cI A : Int) then (if roT A s x.toInt.toNat < 1000000 then nI (roT A s x.toInt.toNat) else -2) else -1
def raV (A : pA) (s : nS) (x y : Int32) : Int32 := if (0 ≤ x.toInt ∧ x.toInt < (cI A : Int)) ∧ 0 ≤ y.toInt ∧ y.toInt < (cI A : Int) then (if roT A s x.toInt.toNat < 1000000 then nI (roO A s x.toInt.toNat y.toInt.toNat) else -1) else -1
def gP (h g : zH) : Prop := g.1 = h.1 ∧ g.2.2 = h.2.2 ∧ ∀ b k, b < 97 → g.2.1 b k = h.2.1 b k
/-- the class's matrix -/
def cfR (n : Nat) (M : roX) (h : zH) : Prop := ∀ i j, i < n → j < n → ∃ v, v ≤ 1000000 ∧ h.2.1 98 (i * 7 + j) = nI v ∧ (i ≠ j → v = M i j)
section AN20
variable {t d N c a b i j k l n m r u v w p q V X : Nat} {h g : zH} {A : pA} {s : nS} {H J : List nS} {x y cl : Int32} {kk : Bool} {im : Int32} {M M' : roX} {f : Nat → Nat → Nat}
theorem gP.rf : gP h h := ⟨rfl, rfl, fun _ _ _ => rfl⟩
theorem gP.tr {g2 : zH} (p : gP h g) (q : gP g g2) : gP h g2 := ⟨q.1.trans p.1, q.2.1.trans p.2.1, fun b k e1 => (q.2.2 b k e1).trans (p.2.2 b k e1)⟩
theorem gP.st {v : Int32} (hb : 97 ≤ b) : gP h (zsI h b k v) := ⟨rfl, rfl, fun b' k' e => zsI_no (by omega)⟩
theorem gF.gp (f : gF 98 h g) : gP h g := ⟨f.1, f.2.1, fun b k e => f.2.2 b k (by omega)⟩
theorem bgC.gp (B : bgC A c s h) (f : gP h g) : bgC A c s g := by
  obtain ⟨B1, B2, B3, ⟨n1, n2, n3, n4⟩, B5, B6, B7⟩ := B
  have hc : c = 2 ∨ c = 42 := B2.2.1
  have e : ∀ a k, (2 ≤ a ∧ a < 92) → g.2.1 a k = h.2.1 a k := fun a k ha => f.2.2 a k (by omega)
  have b3 := B1.1.2.2.1.2.2.1
  have b4 := B1.1.2.2.1.2.2.2.1
  have b1 := B1.1.2.2.1.1
  refine ⟨B1, ?_, ?_, ⟨(e _ _ (by omega)).trans n1, (e _ _ (by omega)).trans n2, fun w hw => ⟨(e _ _ (by omega)).trans (n3 w hw).1, (e _ _ (by omega)).trans (n3 w hw).2⟩, fun b hb => ⟨(e _ _ (by omega)).trans (n4 b hb).1, (e _ _ (by omega)).trans (n4 b hb).2.1, (e _ _ (by omega)).trans (n4 b hb).2.2⟩⟩, by rw [f.2.1]; exact B5, fun w hw => ⟨(e _ _ (by omega)).trans (B6 w hw).1, (e _ _ (by omega)).trans (B6 w hw).2⟩, fun b hb => ⟨(e _ _ (by omega)).trans (B7 b hb).1, (e _ _ (by omega)).trans (B7 b hb).2.1, (e _ _ (by omega)).trans (B7 b hb).2.2.1, (e _ _ (by omega)).trans (B7 b hb).2.2.2⟩⟩
  · obtain ⟨k1, k2, k3, k4, k5, k6⟩ := B2
    refine ⟨f.1.trans k1, k2, k3, by rw [f.2.1]; exact k4, (e _ _ (by omega)).trans k5, fun k hk => ?_⟩
    rw [e _ _ (by omega), e _ _ (by omega), e _ _ (by omega), e _ _ (by omega)]
    exact k6 k hk
  · obtain ⟨k1, k2, k3, ⟨k4, k5, k6, k7⟩, k8, k9⟩ := B3
    refine ⟨f.1.trans k1, k2, by rw [f.2.1]; exact k3, ⟨(e _ _ (by omega)).trans k4, (e _ _ (by omega)).trans k5, (e _ _ (by omega)).trans k6, (e _ _ (by omega)).trans k7⟩, k8, fun i hi => ?_⟩
    rw [e _ _ (by omega), e _ _ (by omega)]
    exact k9 i hi
theorem roB1 : ∀ n, n < 8 → ∀ v, v < 2 ^ n → rpc v 7 ≤ n ∧ (rpc v 7 = n ↔ v = 2 ^ n - 1) := by decide +kernel
theorem roB2' : ((List.range 8).all (fun n => (List.range (2 ^ n)).all (fun v => (List.range n).all (fun i => v.testBit i || (decide (rpc (v ||| 2 ^ i) 7 = rpc v 7 + 1) && (decide (v ||| 2 ^ i < 2 ^ n) && (decide (v < v ||| 2 ^ i) && (v ||| 2 ^ i).testBit i))))))) = true := by decide +kernel
theorem roB2 (n : Nat) (hn : n < 8) (v : Nat) (hv : v < 2 ^ n) (i : Nat) (hi : i < n) (hb : v.testBit i = false) : rpc (v ||| 2 ^ i) 7 = rpc v 7 + 1 ∧ v ||| 2 ^ i < 2 ^ n ∧ v < v ||| 2 ^ i ∧ (v ||| 2 ^ i).testBit i = true := by
  have e := List.all_eq_true.mp (List.all_eq_true.mp (List.all_eq_true.mp roB2' n (List.mem_range.mpr hn)) v (List.mem_range.mpr hv)) i (List.mem_range.mpr hi)
  rw [hb, Bool.false_or, Bool.and_eq_true, Bool.and_eq_true, Bool.and_eq_true, decide_eq_true_eq, decide_eq_true_eq, decide_eq_true_eq] at e
  exact e
theorem roB3 : ∀ n, n < 8 → ∀ i, i < n → (2 ^ n - 1).testBit i = true ∧ rpc (2 ^ i) 7 = 1 ∧ 2 ^ i < 2 ^ n ∧ (2 ^ i).testBit i = true := by decide +kernel
theorem roS1 : ∀ u, u < 128 → ∀ w, w < 7 → (nI u >>> (nI w &&& 31)) &&& nI 1 = if u.testBit w = true then 1 else 0 := by decide +kernel
theorem roS2 : ∀ u, u < 128 → ∀ w, w < 7 → nI u ||| nI 1 <<< (nI w &&& 31) = nI (u ||| 2 ^ w) := by decide +kernel
theorem roS3 : ∀ W, W < 8 → nI 1 <<< (nI W &&& 31) = nI (2 ^ W) := by decide +kernel
theorem roS4 : ∀ u, u < 128 → ∀ w, w < 7 → clB (nI u) w = u.testBit w := by decide +kernel
theorem p7r (hn : n ≤ 7) : 2 ^ n ≤ 128 := (show 2 ^ n ≤ 2 ^ 7 from Nat.pow_le_pow_right (by decide) hn)
theorem nI_m2r {x : Nat} (hx : x ≤ 2147483647) : nI x ≠ (-2 : Int32) := fun z => by
  have := congrArg Int32.toInt z
  rw [nI_toInt (by omega), show (-2 : Int32).toInt = -2 by decide] at this
  omega
theorem zlR {x : Nat} (hx : x ≤ 2147483647) : zcond .lt (nI x) 0 = false := zj_nlt (by rw [nI_toInt (by omega), show (0 : Int32).toInt = 0 by decide]; omega)
theorem dec2 {v : Nat} : nI (v + 1) + Int32.ofInt (-1) = nI v := by
  rw [← nI_add v 1, Int32.add_assoc, show nI 1 + Int32.ofInt (-1) = 0 by decide, Int32.add_zero]
theorem fwF_le (hM : ∀ i j, M i j ≤ 1000000) (p q : Nat) : fwF n k i j M p q ≤ 1000000 := by
  unfold fwF
  by_cases c1 : i = j ∨ i = k ∨ k = j ∨ n ≤ i ∨ n ≤ j ∨ n ≤ k
  · rw [if_pos c1]
    exact hM p q
  · rw [if_neg c1]
    by_cases c2 : M i k + M k j < M i j
    · rw [if_pos c2]
      show (if p = i ∧ q = j then M i k + M k j else M p q) ≤ 1000000
      have := hM i j
      have := hM p q
      split <;> omega
    · rw [if_neg c2]
      exact hM p q
theorem fwJ_le (hM : ∀ i j, M i j ≤ 1000000) : ∀ m p q, fwJ n k i M m p q ≤ 1000000
  | 0, p, q => hM p q
  | m + 1, p, q => fwF_le (fun i j => fwJ_le hM m i j) p q
theorem fwI_le (hM : ∀ i j, M i j ≤ 1000000) : ∀ m p q, fwI n k M m p q ≤ 1000000
  | 0, p, q => hM p q
  | m + 1, p, q => fwJ_le (fun i j => fwI_le hM m i j) n p q
theorem fwK_le (hM : ∀ i j, M i j ≤ 1000000) : ∀ m p q, fwK n M m p q ≤ 1000000
  | 0, p, q => hM p q
  | m + 1, p, q => fwI_le (fun i j => fwK_le hM m i j) n p q
theorem fwF_id (c : i = j ∨ i = k ∨ k = j ∨ n ≤ i ∨ n ≤ j ∨ n ≤ k) : fwF n k i j M = M := if_pos c
theorem fwJ_st : ∀ m, n ≤ m → fwJ n k i M m = fwJ n k i M n
  | 0, hm => by rw [show n = 0 by omega]
  | m + 1, hm => by
    by_cases z : n = m + 1
    · rw [z]
    · show fwF n k i m (fwJ n k i M m) = _
      rw [fwF_id (by omega), fwJ_st m (by omega)]
theorem fwJ_id (c : n ≤ i ∨ n ≤ k) : ∀ m, fwJ n k i M m = M
  | 0 => rfl
  | m + 1 => by
    show fwF n k i m (fwJ n k i M m) = _
    rw [fwF_id (by omega), fwJ_id c m]
theorem fwI_st : ∀ m, n ≤ m → fwI n k M m = fwI n k M n
  | 0, hm => by rw [show n = 0 by omega]
  | m + 1, hm => by
    by_cases z : n = m + 1
    · rw [z]
    · show fwJ n k m (fwI n k M m) n = _
      rw [fwJ_id (by omega), fwI_st m (by omega)]
theorem fwI_id (c : n ≤ k) : ∀ m, fwI n k M m = M
  | 0 => rfl
  | m + 1 => by
    show fwJ n k m (fwI n k M m) n = _
    rw [fwJ_id (by omega), fwI_id c m]
theorem fwK_st : ∀ m, n ≤ m → fwK n M m = fwK n M n
  | 0, hm => by rw [show n = 0 by omega]
  | m + 1, hm => by
    by_cases z : n = m + 1
    · rw [z]
    · show fwI n m (fwK n M m) n = _
      rw [fwI_id (by omega), fwK_st m (by omega)]
theorem roI_le (hI : pI A) (hB : tB A) (hT : tA A) : ∀ i j, roI A cl k i j ≤ 1000000 := fun i j => by
  unfold roI
  cases o : fsF (joF A cl i j) k with
  | none => exact Nat.le_refl _
  | some m =>
    show dyA A m ≤ 1000000
    by_cases z : m < cW A
    · have := (opA_ok hI hB hT m).2.2 z
      omega
    · unfold dyA
      rw [if_neg z]
      decide
theorem cvS_b (e : u.testBit i = true) : cvS M f u l (i + 1) = cvS M f u l i := if_pos e
theorem cvS_n (e : ¬ u.testBit i = true) : cvS M f u l (i + 1) = min (cvS M f u l i) (M l i + f (u ||| 2 ^ i) i) := if_neg e
theorem cvS_le : ∀ m, cvS M f u l m ≤ 1000000
  | 0 => Nat.le_refl _
  | m + 1 => by
    have ih := cvS_le m
    by_cases z : u.testBit m = true
    · rw [cvS_b z]
      exact ih
    · rw [cvS_n z]
      exact Nat.le_trans (Nat.min_le_left _ _) ih
theorem cvF_le : ∀ r u l, cvF n M r u l ≤ 1000000
  | 0, _, _ => Nat.zero_le _
  | _ + 1, _, _ => cvS_le n
theorem cvS_at : ∀ m, cvS M f u l m = 1000000 ∨ ∃ k, k < m ∧ u.testBit k = false ∧ M l k + f (u ||| 2 ^ k) k = cvS M f u l m
  | 0 => .inl rfl
  | m + 1 => by
    have ih := cvS_at m
    by_cases z : u.testBit m = true
    · rw [cvS_b z]
      exact ih.imp id (fun ⟨k, k1, k2⟩ => ⟨k, by omega, k2⟩)
    · rw [cvS_n z]
      by_cases y : cvS M f u l m ≤ M l m + f (u ||| 2 ^ m) m
      · rw [Nat.min_eq_left y]
        exact ih.imp id (fun ⟨k, k1, k2⟩ => ⟨k, by omega, k2⟩)
      · rw [Nat.min_eq_right (by omega)]
        exact .inr ⟨m, Nat.lt_succ_self m, Bool.eq_false_iff.mpr z, rfl⟩
theorem cvS_ge : ∀ m k, k < m → u.testBit k = false → cvS M f u l m ≤ M l k + f (u ||| 2 ^ k) k
  | 0, k, hk, _ => absurd hk (Nat.not_lt_zero k)
  | m + 1, k, hk, hb => by
    by_cases z : u.testBit m = true
    · rw [cvS_b z]
      by_cases e : k = m
      · rw [e, z] at hb
        cases hb
      · exact cvS_ge m k (by omega) hb
    · rw [cvS_n z]
      by_cases e : k = m
      · rw [e]
        exact Nat.min_le_right _ _
      · exact Nat.le_trans (Nat.min_le_left _ _) (cvS_ge m k (by omega) hb)
theorem ncS_s (e : ncS M f u l V i = some k) : ncS M f u l V (i + 1) = some k := by
  show (match ncS M f u l V i with | some k => some k | none => if u.testBit i = false ∧ M l i + f (u ||| 2 ^ i) i = V then some i else none) = _
  rw [e]
theorem ncS_n (e : ncS M f u l V i = none) : ncS M f u l V (i + 1) = if u.testBit i = false ∧ M l i + f (u ||| 2 ^ i) i = V then some i else none := by
  show (match ncS M f u l V i with | some k => some k | none => if u.testBit i = false ∧ M l i + f (u ||| 2 ^ i) i = V then some i else none) = _
  rw [e]
theorem ncS_up (e : ncS M f u l V n = some k) : ∀ m, n ≤ m → ncS M f u l V m = some k
  | 0, hm => by
    have z : n = 0 := by omega
    rw [z] at e
    exact e
  | m + 1, hm => by
    by_cases z : n = m + 1
    · rw [z] at e
      exact e
    · exact ncS_s (ncS_up e m (by omega))
theorem ncS_no : ∀ m, ncS M f u l V m = none → ∀ k, k < m → ¬ (u.testBit k = false ∧ M l k + f (u ||| 2 ^ k) k = V)
  | 0, _, k, hk => absurd hk (Nat.not_lt_zero k)
  | m + 1, e, k, hk => by
    cases o : ncS M f u l V m with
    | some k' => rw [ncS_s o] at e; cases e
    | none =>
      rw [ncS_n o] at e
      by_cases z : u.testBit m = false ∧ M l m + f (u ||| 2 ^ m) m = V
      · rw [if_pos z] at e
        cases e
      · by_cases zk : k = m
        · rw [zk]
          exact z
        · exact ncS_no m o k (by omega)
theorem ncS_in : ∀ m, ncS M f u l V m = some k → k < m ∧ u.testBit k = false ∧ M l k + f (u ||| 2 ^ k) k = V ∧ ∀ j, j < k → ¬ (u.testBit j = false ∧ M l j + f (u ||| 2 ^ j) j = V)
  | 0, e => nomatch e
  | m + 1, e => by
    cases o : ncS M f u l V m with
    | some k' =>
      rw [ncS_s o] at e
      cases e
      obtain ⟨a1, a2⟩ := ncS_in m o
      exact ⟨by omega, a2⟩
    | none =>
      have no := ncS_no m o
      rw [ncS_n o] at e
      by_cases z : u.testBit m = false ∧ M l m + f (u ||| 2 ^ m) m = V
      · rw [if_pos z] at e
        cases e
        exact ⟨Nat.lt_succ_self _, z.1, z.2, no⟩
      · rw [if_neg z] at e
        cases e
theorem cv_eq (hM : ∀ i j, i < n → j < n → i ≠ j → M i j = M' i j) : ∀ r u l, l < n → u.testBit l = true → cvF n M r u l = cvF n M' r u l
  | 0, _, _, _, _ => rfl
  | r + 1, u, l, hl, hu => by
    have ih := cv_eq hM r
    have key : ∀ m, m ≤ n → cvS M (cvF n M r) u l m = cvS M' (cvF n M' r) u l m := by
      intro m
      induction m with
      | zero => intro _; rfl
      | succ m ihm =>
        intro hm
        by_cases z : u.testBit m = true
        · rw [cvS_b z, cvS_b z]
          exact ihm (by omega)
        · have ne : l ≠ m := fun e => z (by rw [← e]; exact hu)
          rw [cvS_n z, cvS_n z, ihm (by omega), hM l m hl (by omega) ne, ih (u ||| 2 ^ m) m (by omega) (by rw [Nat.testBit_or, Nat.testBit_two_pow_self, Bool.or_true])]
    exact key n (Nat.le_refl n)
theorem nx_in (e : cvF n M (r + 1) u l < 1000000) : ∃ k, ncS M (cvF n M r) u l (cvF n M (r + 1) u l) n = some k ∧ nxF n M r u l = k ∧ k < n ∧ u.testBit k = false ∧ M l k + cvF n M r (u ||| 2 ^ k) k = cvF n M (r + 1) u l := by
  cases o : ncS M (cvF n M r) u l (cvF n M (r + 1) u l) n with
  | some k =>
    obtain ⟨a1, a2, a3, -⟩ := ncS_in n o
    exact ⟨k, rfl, by unfold nxF; rw [o]; rfl, a1, a2, a3⟩
  | none =>
    rcases cvS_at (M := M) (f := cvF n M r) (u := u) (l := l) n with z | ⟨k, k1, k2, k3⟩
    · have e : cvS M (cvF n M r) u l n < 1000000 := e
      omega
    · exact absurd ⟨k2, k3⟩ (ncS_no n o k k1)
/-- the class -/
theorem N_fill3 {v : Int32} (h1 : h.1 = hh_487.1) : zPa d mJ7_fill_53178 [.inr (.inr (some 98)), .inl v] h (fun r g => r = none ∧ gF 98 h g ∧ ∀ i, i < 49 → g.2.1 98 i = v) := by
  intro N
  have lp : ∀ (N i : Nat) (ls : zL) (g : zH), i ≤ 49 → gF 98 h g → (∀ j, j < i → g.2.1 98 j = v) → zget ls 0 = some (.inr (.inr (some 98))) → zget ls 1 = some (.inl v) → zget ls 2 = some (.inl (nI i)) → zget ls 3 = some (.inl (nI 49)) → zPn N none d mJ7_fill_53178 (5, ls, [], g) (fun r g => r = none ∧ gF 98 h g ∧ ∀ i, i < 49 → g.2.1 98 i = v) := by
    intro N
    induction N with
    | zero => intros; exact zPn.zero
    | succ N ih =>
      intro i ls g hi hf hv hl0 hl1 hl2 hl3
      have s95 : zsh g 98 = some (14, 49) := zsh_by (hf.1.trans h1) (by decide +kernel)
      refine pa_iload_n (pc' := 6) dJ7_fill_53178_5 hl2 rfl ?_
      refine pa_iload_n (pc' := 7) dJ7_fill_53178_6 hl3 rfl ?_
      refine pa_icmp (pc' := 20) (pc2 := 10) dJ7_fill_53178_7 (by decide) rfl (fun w => ?_) (fun w => ?_)
      · have w := zi_nlt (zk_ge_lt w)
        rw [nI_toInt (by omega), nI_toInt (by omega)] at w
        refine pa_vret dJ7_fill_53178_20 rfl ?_
        exact ⟨rfl, hf, fun j hj => hv j (by omega)⟩
      · have w := zi_lt (zk_ge_lt w)
        rw [nI_toInt (by omega), nI_toInt (by omega)] at w
        refine pa_aload_n (pc' := 11) dJ7_fill_53178_10 hl0 rfl ?_
        refine pa_iload_n (pc' := 12) dJ7_fill_53178_11 hl2 rfl ?_
        refine pa_iload_n (pc' := 13) dJ7_fill_53178_12 hl1 rfl ?_
        refine pa_iast (pc' := 14) dJ7_fill_53178_13 s95 rfl (fun _ => ?_)
        rw [nI_clamp (by omega)]
        refine pa_iinc (pc' := 17) (v := nI (i + 1)) dJ7_fill_53178_14 hl2 (by decide) (nI_add i 1) rfl rfl ?_
        refine pa_gotos (pc' := 5) dJ7_fill_53178_17 (by decide) ?_
        refine ih (i + 1) _ _ (by omega) (hf.tr gF.st) (fun j hj => ?_) (zget_s1 hl0 (by decide) (by simp [zcat])) (zget_s1 hl1 (by decide) (by simp [zcat])) zget_s1e (zget_s1 hl3 (by decide) (by simp [zcat]))
        rw [zsI_at]
        by_cases z : j = i
        · rw [if_pos ⟨rfl, z⟩]
        · rw [if_neg (fun q => z q.2)]
          exact hv j (by omega)
  have s95 : zsh h 98 = some (14, 49) := zsh_by h1 (by decide +kernel)
  show zPn N none d mJ7_fill_53178 (0, [(0, .inr (.inr (some 98))), (1, .inl v)], [], h) _
  refine pa_iconst (v := nI 0) (pc' := 1) dJ7_fill_53178_0 (by decide) rfl ?_
  refine pa_istore_n (pc' := 2) dJ7_fill_53178_1 (by decide) rfl rfl ?_
  refine pa_aload_n (pc' := 3) dJ7_fill_53178_2 rfl rfl ?_
  refine pa_alen (pc' := 4) (v := nI 49) dJ7_fill_53178_3 s95 (by decide) (by decide) rfl ?_
  refine pa_istore_n (pc' := 5) dJ7_fill_53178_4 (by decide) rfl rfl ?_
  exact lp N 0 _ h (Nat.zero_le _) gF.rf (fun j hj => absurd hj (Nat.not_lt_zero j)) rfl rfl rfl rfl
theorem roL : (1000000 : Int32) = nI 1000000 := by decide
theorem roI_st {cl : Int32} (q : ¬ joF A cl i j k = true) : roI A cl (k + 1) i j = roI A cl k i j := by
  unfold roI
  cases o : fsF (joF A cl i j) k with
  | none => rw [fsF_nx o q]
  | some m => rw [fsF_st o (k + 1) (by omega)]
theorem roI_hit {cl : Int32} (u : tU A) (hk : k < cW A) (q : joF A cl i j k = true) : roI A cl (k + 1) i j = dyA A k := by
  unfold roI
  cases o : fsF (joF A cl i j) k with
  | none => rw [fsF_hit o q]; rfl
  | some m =>
    obtain ⟨m1, m2⟩ := fsF_in _ o
    have := u.un (show m < cW A by omega) hk (joF_iff.mp m2).1 (joF_iff.mp q).1
    omega
theorem joF_cl {cl : Int32} (e : clB cl k = true) : ¬ joF A cl i j k = true := fun q => (joF_iff.mp q).2 e
theorem N_shortA (B0 : bgC A c s h) (u : tU A) (r96 : h.2.2.2.1 96 0 = some c) (r2 : h.2.2.2.1 96 2 = some 98) {Q : Option zV → zH → Prop} (nx : ∀ (N : Nat) (ls : zL) (g : zH), gF 98 h g → cfR (cI A) (roI A s.2.1 (cW A)) g → zget ls 0 = some (.inr (.inr (some 96))) → zPn N none d mX3_findShortest (126, ls, [], g) Q) : ∀ N, zPn N none d mX3_findShortest (0, [(0, .inr (.inr (some 96))), (1, .inl s.2.1)], [], h) Q := by
  intro N
  obtain ⟨hI, hT, hB, hN⟩ := B0.1
  obtain ⟨b1, b2, b3, b4, b5⟩ := hI.2.2.1
  have hc : c = 2 ∨ c = 42 := B0.2.1.2.1
  have wab := hB.2.1
  have lp : ∀ (N k : Nat) (ls : zL) (g : zH), k ≤ cW A → gF 98 h g → cfR (cI A) (roI A s.2.1 k) g → zget ls 0 = some (.inr (.inr (some 96))) → zget ls 1 = some (.inl s.2.1) → zget ls 2 = some (.inl (nI k)) → zPn N none d mX3_findShortest (11, ls, [], g) Q := by
    intro N
    induction N with
    | zero => intros; exact zPn.zero
    | succ N ih =>
      intro k ls g hk f R hl0 hl1 hl2
      have B := B0.gp f.gp
      obtain ⟨k1, k2, k3, ⟨-, -, -, rc11, rw0⟩, e5, kf⟩ := B.2.1
      have sc := B.sh.1
      have s96 : zsh g 96 = some (3, 4) := zsh_by k1 (by decide +kernel)
      have s98 : zsh g 98 = some (14, 49) := zsh_by k1 (by decide +kernel)
      have sc3 : zsh g (c + 3) = some (19, 12) := by
        rcases k2 with e | e <;> subst e <;> exact zsh_by k1 (by decide +kernel)
      have r96 : g.2.2.2.1 96 0 = some c := by rw [f.2.1]; exact r96
      have r2 : g.2.2.2.1 96 2 = some 98 := by rw [f.2.1]; exact r2
      refine pa_iload_n (pc' := 12) dX3_findShortest_11 hl2 rfl ?_
      refine pa_aload_n (pc' := 13) dX3_findShortest_12 hl0 rfl ?_
      refine pa_getR (pc' := 16) (n := 4) (r := c) dX3_findShortest_13 fl_3_21 s96 (by decide) r96 rfl ?_
      refine pa_getI (pc' := 19) (n := 15) (v := nI (cW A)) dX3_findShortest_16 fl_3_40 sc (by decide) e5 rfl ?_
      refine pa_icmp (pc' := 126) (pc2 := 22) dX3_findShortest_19 (by decide) rfl (fun z => ?_) (fun z => ?_)
      · have z := zi_nlt (zk_ge_lt z)
        rw [nI_toInt (by omega), nI_toInt (by omega)] at z
        have ek : k = cW A := by omega
        rw [ek] at R
        exact nx _ _ _ f R hl0
      have z := zi_lt (zk_ge_lt z)
      rw [nI_toInt (by omega), nI_toInt (by omega)] at z
      have hk : k < cW A := by omega
      obtain ⟨v1, v2, v3, -, la, lb, -⟩ := kf k hk
      obtain ⟨w1, w2, w3⟩ := wab k hk
      have w2 : wa A k < cI A := w2
      have w3 : wb A k < cI A := w3
      have w1 : wa A k ≠ wb A k := w1
      have sw := B.2.1.wy (k := k) (by omega)
      have rk := rw0 k (by omega)
      refine pa_iload_n (pc' := 23) dX3_findShortest_22 hl1 rfl ?_
      refine pa_iload_n (pc' := 24) dX3_findShortest_23 hl2 rfl ?_
      refine pa_ishr (pc' := 25) dX3_findShortest_24 rfl rfl ?_
      refine pa_iconst (v := 1) (pc' := 26) dX3_findShortest_25 (by decide) rfl ?_
      refine pa_iand (pc' := 27) dX3_findShortest_26 rfl rfl ?_
      by_cases y : clB s.2.1 k = true
      · refine pa_if_t (pc' := 120) dX3_findShortest_27 (decide_eq_true (of_decide_eq_true y)) (by decide) ?_
        refine pa_iinc (pc' := 123) (v := nI (k + 1)) dX3_findShortest_120 hl2 (by decide) (nI_add k 1) rfl rfl ?_
        refine pa_gotos (pc' := 11) dX3_findShortest_123 (by decide) ?_
        refine ih (k + 1) _ _ (by omega) f (fun i j hi hj => ?_) (zget_s1 hl0 (by decide) (by simp [zcat])) (zget_s1 hl1 (by decide) (by simp [zcat])) zget_s1e
        obtain ⟨v, q1, q2, q3⟩ := R i j hi hj
        exact ⟨v, q1, q2, fun ne => by rw [roI_st (joF_cl y)]; exact q3 ne⟩
      have dl : dyA A k ≤ 99 := (opA_ok hI hB hT k).2.2 hk
      have y1 : (zsI g 98 (wa A k * 7 + wb A k) (nI (dyA A k))).2.1 (c + 7 + k) 0 = nI (wa A k) := (zsI_no (by omega)).trans v1
      have y2 : (zsI g 98 (wa A k * 7 + wb A k) (nI (dyA A k))).2.1 (c + 7 + k) 1 = nI (wb A k) := (zsI_no (by omega)).trans v2
      have y3 : (zsI g 98 (wa A k * 7 + wb A k) (nI (dyA A k))).2.1 (c + 7 + k) 2 = nI (dyA A k) := (zsI_no (by omega)).trans v3
      refine pa_if_f (pc' := 30) dX3_findShortest_27 (decide_eq_false (fun q => y (decide_eq_true q))) (by decide) rfl ?_
      refine pa_aload_n (pc' := 31) dX3_findShortest_30 hl0 rfl ?_
      refine pa_getR (pc' := 34) (n := 4) (r := 98) dX3_findShortest_31 fl_3_15 s96 (by decide) r2 rfl ?_
      refine pa_aload_n (pc' := 35) dX3_findShortest_34 hl0 rfl ?_
      refine pa_getR (pc' := 38) (n := 4) (r := c) dX3_findShortest_35 fl_3_21 s96 (by decide) r96 rfl ?_
      refine pa_getR (pc' := 41) (n := 15) (r := c + 3) dX3_findShortest_38 fl_3_43 sc (by decide) rc11 rfl ?_
      refine pa_iload_n (pc' := 42) dX3_findShortest_41 hl2 rfl ?_
      refine pa_aald (pc' := 43) (r := c + 7 + k) dX3_findShortest_42 sc3 (by decide) (zn_in (by omega) (by omega)) (by rw [nI_clamp (by omega)]; exact rk) rfl ?_
      refine pa_getI (pc' := 46) (n := 4) (v := nI (wa A k)) dX3_findShortest_43 fl_3_47 sw (by decide) v1 rfl ?_
      refine pa_bipush (v := nI 7) (pc' := 48) dX3_findShortest_46 (by decide) rfl ?_
      refine pa_imul (pc' := 49) (v := nI ((wa A k) * 7)) dX3_findShortest_48 (nI_mul _ _) rfl ?_
      refine pa_aload_n (pc' := 50) dX3_findShortest_49 hl0 rfl ?_
      refine pa_getR (pc' := 53) (n := 4) (r := c) dX3_findShortest_50 fl_3_21 s96 (by decide) r96 rfl ?_
      refine pa_getR (pc' := 56) (n := 15) (r := c + 3) dX3_findShortest_53 fl_3_43 sc (by decide) rc11 rfl ?_
      refine pa_iload_n (pc' := 57) dX3_findShortest_56 hl2 rfl ?_
      refine pa_aald (pc' := 58) (r := c + 7 + k) dX3_findShortest_57 sc3 (by decide) (zn_in (by omega) (by omega)) (by rw [nI_clamp (by omega)]; exact rk) rfl ?_
      refine pa_getI (pc' := 61) (n := 4) (v := nI (wb A k)) dX3_findShortest_58 fl_3_52 sw (by decide) v2 rfl ?_
      refine pa_iadd (pc' := 62) (v := nI ((wa A k) * 7 + wb A k)) dX3_findShortest_61 (nI_add _ _) rfl ?_
      refine pa_aload_n (pc' := 63) dX3_findShortest_62 hl0 rfl ?_
      refine pa_getR (pc' := 66) (n := 4) (r := c) dX3_findShortest_63 fl_3_21 s96 (by decide) r96 rfl ?_
      refine pa_getR (pc' := 69) (n := 15) (r := c + 3) dX3_findShortest_66 fl_3_43 sc (by decide) rc11 rfl ?_
      refine pa_iload_n (pc' := 70) dX3_findShortest_69 hl2 rfl ?_
      refine pa_aald (pc' := 71) (r := c + 7 + k) dX3_findShortest_70 sc3 (by decide) (zn_in (by omega) (by omega)) (by rw [nI_clamp (by omega)]; exact rk) rfl ?_
      refine pa_getI (pc' := 74) (n := 4) (v := nI (dyA A k)) dX3_findShortest_71 fl_3_73 sw (by decide) v3 rfl ?_
      refine pa_iast (pc' := 75) dX3_findShortest_74 s98 rfl (fun _ => ?_)
      rw [nI_clamp (by omega)]
      refine pa_aload_n (pc' := 76) dX3_findShortest_75 hl0 rfl ?_
      refine pa_getR (pc' := 79) (n := 4) (r := 98) dX3_findShortest_76 fl_3_15 s96 (by decide) r2 rfl ?_
      refine pa_aload_n (pc' := 80) dX3_findShortest_79 hl0 rfl ?_
      refine pa_getR (pc' := 83) (n := 4) (r := c) dX3_findShortest_80 fl_3_21 s96 (by decide) r96 rfl ?_
      refine pa_getR (pc' := 86) (n := 15) (r := c + 3) dX3_findShortest_83 fl_3_43 sc (by decide) rc11 rfl ?_
      refine pa_iload_n (pc' := 87) dX3_findShortest_86 hl2 rfl ?_
      refine pa_aald (pc' := 88) (r := c + 7 + k) dX3_findShortest_87 sc3 (by decide) (zn_in (by omega) (by omega)) (by rw [nI_clamp (by omega)]; exact rk) rfl ?_
      refine pa_getI (pc' := 91) (n := 4) (v := nI (wb A k)) dX3_findShortest_88 fl_3_52 sw (by decide) y2 rfl ?_
      refine pa_bipush (v := nI 7) (pc' := 93) dX3_findShortest_91 (by decide) rfl ?_
      refine pa_imul (pc' := 94) (v := nI ((wb A k) * 7)) dX3_findShortest_93 (nI_mul _ _) rfl ?_
      refine pa_aload_n (pc' := 95) dX3_findShortest_94 hl0 rfl ?_
      refine pa_getR (pc' := 98) (n := 4) (r := c) dX3_findShortest_95 fl_3_21 s96 (by decide) r96 rfl ?_
      refine pa_getR (pc' := 101) (n := 15) (r := c + 3) dX3_findShortest_98 fl_3_43 sc (by decide) rc11 rfl ?_
      refine pa_iload_n (pc' := 102) dX3_findShortest_101 hl2 rfl ?_
      refine pa_aald (pc' := 103) (r := c + 7 + k) dX3_findShortest_102 sc3 (by decide) (zn_in (by omega) (by omega)) (by rw [nI_clamp (by omega)]; exact rk) rfl ?_
      refine pa_getI (pc' := 106) (n := 4) (v := nI (wa A k)) dX3_findShortest_103 fl_3_47 sw (by decide) y1 rfl ?_
      refine pa_iadd (pc' := 107) (v := nI ((wb A k) * 7 + wa A k)) dX3_findShortest_106 (nI_add _ _) rfl ?_
      refine pa_aload_n (pc' := 108) dX3_findShortest_107 hl0 rfl ?_
      refine pa_getR (pc' := 111) (n := 4) (r := c) dX3_findShortest_108 fl_3_21 s96 (by decide) r96 rfl ?_
      refine pa_getR (pc' := 114) (n := 15) (r := c + 3) dX3_findShortest_111 fl_3_43 sc (by decide) rc11 rfl ?_
      refine pa_iload_n (pc' := 115) dX3_findShortest_114 hl2 rfl ?_
      refine pa_aald (pc' := 116) (r := c + 7 + k) dX3_findShortest_115 sc3 (by decide) (zn_in (by omega) (by omega)) (by rw [nI_clamp (by omega)]; exact rk) rfl ?_
      refine pa_getI (pc' := 119) (n := 4) (v := nI (dyA A k)) dX3_findShortest_116 fl_3_73 sw (by decide) y3 rfl ?_
      refine pa_iast (pc' := 120) dX3_findShortest_119 s98 rfl (fun _ => ?_)
      rw [nI_clamp (by omega)]
      refine pa_iinc (pc' := 123) (v := nI (k + 1)) dX3_findShortest_120 hl2 (by decide) (nI_add k 1) rfl rfl ?_
      refine pa_gotos (pc' := 11) dX3_findShortest_123 (by decide) ?_
      refine ih (k + 1) _ _ (by omega) ((f.tr gF.st).tr gF.st) (fun i j hi hj => ?_) (zget_s1 hl0 (by decide) (by simp [zcat])) (zget_s1 hl1 (by decide) (by simp [zcat])) zget_s1e
      rw [zsI_at, zsI_at]
      by_cases z1 : i = wb A k ∧ j = wa A k
      · rw [if_pos ⟨rfl, by rw [z1.1, z1.2]⟩]
        exact ⟨_, by omega, rfl, fun ne => (roI_hit u hk (joF_iff.mpr ⟨joins_ab.mpr (.inr ⟨z1.2.symm, z1.1.symm⟩), y⟩)).symm⟩
      · rw [if_neg (fun q => z1 (by omega))]
        by_cases z2 : i = wa A k ∧ j = wb A k
        · rw [if_pos ⟨rfl, by rw [z2.1, z2.2]⟩]
          exact ⟨_, by omega, rfl, fun ne => (roI_hit u hk (joF_iff.mpr ⟨joins_ab.mpr (.inl ⟨z2.1.symm, z2.2.symm⟩), y⟩)).symm⟩
        · rw [if_neg (fun q => z2 (by omega))]
          obtain ⟨v, q1, q2, q3⟩ := R i j hi hj
          refine ⟨v, q1, q2, fun ne => ?_⟩
          rw [roI_st (fun q => by
            rcases joins_ab.mp (joF_iff.mp q).1 with e | e
            · exact z2 ⟨e.1.symm, e.2.symm⟩
            · exact z1 ⟨e.2.symm, e.1.symm⟩)]
          exact q3 ne
  have s96 : zsh h 96 = some (3, 4) := zsh_by B0.2.1.1 (by decide +kernel)
  refine pa_aload_n (pc' := 1) dX3_findShortest_0 rfl rfl ?_
  refine pa_getR (pc' := 4) (n := 4) (r := 98) dX3_findShortest_1 fl_3_15 s96 (by decide) r2 rfl ?_
  refine pa_ldc (pc' := 6) dX3_findShortest_4 cl_3_62 rfl rfl ?_
  refine pa_calls (pc' := 9) (kd := 1) (vs := [.inr (.inr (some 98)), .inl 1000000]) (rest := []) dX3_findShortest_6 ml_3_67 (.inl rfl) rfl rfl rfl (fun d' _ => (N_fill3 B0.2.1.1)) (fun v g hq => ?_)
  obtain ⟨ev, eh⟩ := hq
  subst ev
  show zPn N none d mX3_findShortest (9, _, [], g) _
  refine pa_iconst (v := nI 0) (pc' := 10) dX3_findShortest_9 (by decide) rfl ?_
  refine pa_istore_n (pc' := 11) dX3_findShortest_10 (by decide) rfl rfl ?_
  exact lp _ 0 _ _ (Nat.zero_le _) eh.1 (fun i j hi hj => ⟨1000000, Nat.le_refl _, by rw [eh.2 _ (by omega), roL], fun _ => rfl⟩) rfl rfl rfl
theorem cf_st {va vb vc : Nat} (R : cfR n M g) (n7 : n ≤ 7) (hi : i < n) (hj : j < n) (hk : k < n) (a1 : va ≤ 1000000) (a3 : i ≠ j → va = M i j) (b3 : i ≠ k → vb = M i k) (c3 : k ≠ j → vc = M k j) : cfR n (fwF n k i j M) (zsI g 98 (i * 7 + j) (nI (min va (vb + vc)))) := by
  intro p q hp hq
  rw [zsI_at]
  by_cases z : p = i ∧ q = j
  · rw [if_pos ⟨rfl, by rw [z.1, z.2]⟩, z.1, z.2]
    refine ⟨_, Nat.le_trans (Nat.min_le_left _ _) a1, rfl, fun ne => ?_⟩
    have a3 := a3 ne
    by_cases e1 : i = k
    · have c3 := c3 (by omega)
      rw [fwF_id (by omega), a3, c3, ← e1, Nat.min_eq_left (by omega)]
    · have b3 := b3 e1
      by_cases e2 : k = j
      · rw [fwF_id (by omega), a3, b3, e2, Nat.min_eq_left (by omega)]
      · have c3 := c3 e2
        unfold fwF
        rw [if_neg (by omega)]
        by_cases c2 : M i k + M k j < M i j
        · rw [if_pos c2]
          show _ = if i = i ∧ j = j then M i k + M k j else M i j
          rw [if_pos ⟨rfl, rfl⟩, Nat.min_eq_right (by omega), b3, c3]
        · rw [if_neg c2, Nat.min_eq_left (by omega), a3]
  · rw [if_neg (fun y => z (by omega))]
    obtain ⟨v, v1, v2, v3⟩ := R p q hp hq
    refine ⟨v, v1, v2, fun ne => ?_⟩
    rw [v3 ne]
    unfold fwF
    by_cases c1 : i = j ∨ i = k ∨ k = j ∨ n ≤ i ∨ n ≤ j ∨ n ≤ k
    · rw [if_pos c1]
    · rw [if_neg c1]
      by_cases c2 : M i k + M k j < M i j
      · rw [if_pos c2]
        show _ = if p = i ∧ q = j then _ else M p q
        rw [if_neg z]
      · rw [if_neg c2]
theorem N_shortB (h1 : h.1 = hh_487.1) (hc : c = 2 ∨ c = 42) (n7 : cI A ≤ 7) (r96 : h.2.2.2.1 96 0 = some c) (r2 : h.2.2.2.1 96 2 = some 98) (e4 : h.2.1 c 4 = nI (cI A)) {M0 : roX} : ∀ (r k N : Nat) (ls : zL) (g : zH), k + r = cI A → gF 98 h g → cfR (cI A) (fwK (cI A) M0 k) g → zget ls 0 = some (.inr (.inr (some 96))) → zget ls 2 = some (.inl (nI k)) → zPn N none d mX3_findShortest (128, ls, [], g) (fun v g => v = none ∧ gF 98 h g ∧ cfR (cI A) (fwK (cI A) M0 (cI A)) g) := by
  have FC : ∀ {g : zH}, gF 98 h g → zsh g 96 = some (3, 4) ∧ zsh g 98 = some (14, 49) ∧ zsh g c = some (4, 15) ∧ g.2.2.2.1 96 0 = some c ∧ g.2.2.2.1 96 2 = some 98 ∧ g.2.1 c 4 = nI (cI A) := fun f => ⟨zsh_by (f.1.trans h1) (by decide +kernel), zsh_by (f.1.trans h1) (by decide +kernel), by rcases hc with z | z <;> subst z <;> exact zsh_by (f.1.trans h1) (by decide +kernel), by rw [f.2.1]; exact r96, by rw [f.2.1]; exact r2, (f.2.2 _ _ (by omega)).trans e4⟩
  intro r
  induction r with
  | zero =>
    intro k N ls g hr f R hl0 hl2
    obtain ⟨s96, s98, sc, r96, r2, e4⟩ := FC f
    have ek : k = cI A := by omega
    rw [ek] at R
    refine pa_iload_n (pc' := 129) dX3_findShortest_128 hl2 rfl ?_
    refine pa_aload_n (pc' := 130) dX3_findShortest_129 hl0 rfl ?_
    refine pa_getR (pc' := 133) (n := 4) (r := c) dX3_findShortest_130 fl_3_21 s96 (by decide) r96 rfl ?_
    refine pa_getI (pc' := 136) (n := 15) (v := nI (cI A)) dX3_findShortest_133 fl_3_25 sc (by decide) e4 rfl ?_
    refine pa_icmp_t (pc' := 240) dX3_findShortest_136 (zk_lt_ge (b := false) (zj_nlt (by rw [nI_toInt (by omega), nI_toInt (by omega)]; omega))) (by decide) ?_
    refine pa_vret dX3_findShortest_240 rfl ?_
    exact ⟨rfl, f, R⟩
  | succ r ih =>
    intro k N ls g hr f R hl0 hl2
    have hk : k < cI A := by omega
    obtain ⟨s96, s98, sc, r96', r2', e4'⟩ := FC f
    refine pa_iload_n (pc' := 129) dX3_findShortest_128 hl2 rfl ?_
    refine pa_aload_n (pc' := 130) dX3_findShortest_129 hl0 rfl ?_
    refine pa_getR (pc' := 133) (n := 4) (r := c) dX3_findShortest_130 fl_3_21 s96 (by decide) r96' rfl ?_
    refine pa_getI (pc' := 136) (n := 15) (v := nI (cI A)) dX3_findShortest_133 fl_3_25 sc (by decide) e4' rfl ?_
    refine pa_icmp_f (pc' := 139) dX3_findShortest_136 (zk_lt_ge (b := true) (zj_lt (by rw [nI_toInt (by omega), nI_toInt (by omega)]; omega))) (by decide) rfl ?_
    refine pa_iconst (v := nI 0) (pc' := 140) dX3_findShortest_139 (by decide) rfl ?_
    refine pa_istore_n (pc' := 141) dX3_findShortest_140 (by decide) rfl rfl ?_
    have mid : ∀ (q i N : Nat) (ls : zL) (g : zH), i + q = cI A → gF 98 h g → cfR (cI A) (fwI (cI A) k (fwK (cI A) M0 k) i) g → zget ls 0 = some (.inr (.inr (some 96))) → zget ls 2 = some (.inl (nI k)) → zget ls 3 = some (.inl (nI i)) → zPn N none d mX3_findShortest (141, ls, [], g) (fun v g => v = none ∧ gF 98 h g ∧ cfR (cI A) (fwK (cI A) M0 (cI A)) g) := by
      intro q
      induction q with
      | zero =>
        intro i N ls g hq f R hl0 hl2 hl3
        obtain ⟨s96, s98, sc, r96, r2, e4⟩ := FC f
        have ei : i = cI A := by omega
        rw [ei] at R
        refine pa_iload_n (pc' := 142) dX3_findShortest_141 hl3 rfl ?_
        refine pa_aload_n (pc' := 143) dX3_findShortest_142 hl0 rfl ?_
        refine pa_getR (pc' := 146) (n := 4) (r := c) dX3_findShortest_143 fl_3_21 s96 (by decide) r96 rfl ?_
        refine pa_getI (pc' := 149) (n := 15) (v := nI (cI A)) dX3_findShortest_146 fl_3_25 sc (by decide) e4 rfl ?_
        refine pa_icmp_t (pc' := 234) dX3_findShortest_149 (zk_lt_ge (b := false) (zj_nlt (by rw [nI_toInt (by omega), nI_toInt (by omega)]; omega))) (by decide) ?_
        cases N with
        | zero => exact zPn.zero
        | succ N =>
          refine pa_iinc (pc' := 237) (v := nI (k + 1)) dX3_findShortest_234 hl2 (by decide) (nI_add k 1) rfl rfl ?_
          refine pa_gotos (pc' := 128) dX3_findShortest_237 (by decide) ?_
          exact ih (k + 1) N _ g (by omega) f R (zget_s1 hl0 (by decide) (by simp [zcat])) zget_s1e
      | succ q ihq =>
        intro i N ls g hq f R hl0 hl2 hl3
        have hi : i < cI A := by omega
        obtain ⟨s96, s98, sc, r96', r2', e4'⟩ := FC f
        refine pa_iload_n (pc' := 142) dX3_findShortest_141 hl3 rfl ?_
        refine pa_aload_n (pc' := 143) dX3_findShortest_142 hl0 rfl ?_
        refine pa_getR (pc' := 146) (n := 4) (r := c) dX3_findShortest_143 fl_3_21 s96 (by decide) r96' rfl ?_
        refine pa_getI (pc' := 149) (n := 15) (v := nI (cI A)) dX3_findShortest_146 fl_3_25 sc (by decide) e4' rfl ?_
        refine pa_icmp_f (pc' := 152) dX3_findShortest_149 (zk_lt_ge (b := true) (zj_lt (by rw [nI_toInt (by omega), nI_toInt (by omega)]; omega))) (by decide) rfl ?_
        refine pa_iconst (v := nI 0) (pc' := 153) dX3_findShortest_152 (by decide) rfl ?_
        refine pa_istore (pc' := 155) dX3_findShortest_153 (by decide) rfl rfl ?_
        have inn : ∀ (N j : Nat) (ls : zL) (g : zH), j ≤ cI A → gF 98 h g → cfR (cI A) (fwJ (cI A) k i (fwI (cI A) k (fwK (cI A) M0 k) i) j) g → zget ls 0 = some (.inr (.inr (some 96))) → zget ls 2 = some (.inl (nI k)) → zget ls 3 = some (.inl (nI i)) → zget ls 4 = some (.inl (nI j)) → zPn N none d mX3_findShortest (155, ls, [], g) (fun v g => v = none ∧ gF 98 h g ∧ cfR (cI A) (fwK (cI A) M0 (cI A)) g) := by
          intro N
          induction N with
          | zero => intros; exact zPn.zero
          | succ N ihN =>
            intro j ls g hj f R hl0 hl2 hl3 hl4
            obtain ⟨s96, s98, sc, r96, r2, e4⟩ := FC f
            refine pa_iload (pc' := 157) dX3_findShortest_155 hl4 rfl ?_
            refine pa_aload_n (pc' := 158) dX3_findShortest_157 hl0 rfl ?_
            refine pa_getR (pc' := 161) (n := 4) (r := c) dX3_findShortest_158 fl_3_21 s96 (by decide) r96 rfl ?_
            refine pa_getI (pc' := 164) (n := 15) (v := nI (cI A)) dX3_findShortest_161 fl_3_25 sc (by decide) e4 rfl ?_
            refine pa_icmp (pc' := 228) (pc2 := 167) dX3_findShortest_164 (by decide) rfl (fun z => ?_) (fun z => ?_)
            · have z := zi_nlt (zk_ge_lt z)
              rw [nI_toInt (by omega), nI_toInt (by omega)] at z
              have ej : j = cI A := by omega
              rw [ej] at R
              refine pa_iinc (pc' := 231) (v := nI (i + 1)) dX3_findShortest_228 hl3 (by decide) (nI_add i 1) rfl rfl ?_
              refine pa_gotos (pc' := 141) dX3_findShortest_231 (by decide) ?_
              exact ihq (i + 1) N _ g (by omega) f R (zget_s1 hl0 (by decide) (by simp [zcat])) (zget_s1 hl2 (by decide) (by simp [zcat])) zget_s1e
            have z := zi_lt (zk_ge_lt z)
            rw [nI_toInt (by omega), nI_toInt (by omega)] at z
            have hj : j < cI A := by omega
            obtain ⟨va, a1, a2, a3⟩ := R i j hi hj
            obtain ⟨vb, b1, b2, b3⟩ := R i k hi hk
            obtain ⟨vc, c1, c2, c3⟩ := R k j hk hj
            refine pa_aload_n (pc' := 168) dX3_findShortest_167 hl0 rfl ?_
            refine pa_getR (pc' := 171) (n := 4) (r := 98) dX3_findShortest_168 fl_3_15 s96 (by decide) r2 rfl ?_
            refine pa_iload_n (pc' := 172) dX3_findShortest_171 hl3 rfl ?_
            refine pa_bipush (v := nI 7) (pc' := 174) dX3_findShortest_172 (by decide) rfl ?_
            refine pa_imul (pc' := 175) (v := nI (i * 7)) dX3_findShortest_174 (nI_mul _ _) rfl ?_
            refine pa_iload_n (pc' := 176) dX3_findShortest_175 hl2 rfl ?_
            refine pa_iadd (pc' := 177) (v := nI (i * 7 + k)) dX3_findShortest_176 (nI_add _ _) rfl ?_
            refine pa_iald (pc' := 178) dX3_findShortest_177 s98 rfl (fun _ => ?_)
            rw [nI_clamp (by omega), b2]
            refine pa_aload_n (pc' := 179) dX3_findShortest_178 hl0 rfl ?_
            refine pa_getR (pc' := 182) (n := 4) (r := 98) dX3_findShortest_179 fl_3_15 s96 (by decide) r2 rfl ?_
            refine pa_iload_n (pc' := 183) dX3_findShortest_182 hl2 rfl ?_
            refine pa_bipush (v := nI 7) (pc' := 185) dX3_findShortest_183 (by decide) rfl ?_
            refine pa_imul (pc' := 186) (v := nI (k * 7)) dX3_findShortest_185 (nI_mul _ _) rfl ?_
            refine pa_iload (pc' := 188) dX3_findShortest_186 hl4 rfl ?_
            refine pa_iadd (pc' := 189) (v := nI (k * 7 + j)) dX3_findShortest_188 (nI_add _ _) rfl ?_
            refine pa_iald (pc' := 190) dX3_findShortest_189 s98 rfl (fun _ => ?_)
            rw [nI_clamp (by omega), c2]
            refine pa_iadd (pc' := 191) (v := nI (vb + vc)) dX3_findShortest_190 (nI_add _ _) rfl ?_
            refine pa_istore (pc' := 193) dX3_findShortest_191 (by decide) rfl rfl ?_
            refine pa_aload_n (pc' := 194) dX3_findShortest_193 (zget_s1 hl0 (by decide) (by simp [zcat])) rfl ?_
            refine pa_getR (pc' := 197) (n := 4) (r := 98) dX3_findShortest_194 fl_3_15 s96 (by decide) r2 rfl ?_
            refine pa_iload_n (pc' := 198) dX3_findShortest_197 (zget_s1 hl3 (by decide) (by simp [zcat])) rfl ?_
            refine pa_bipush (v := nI 7) (pc' := 200) dX3_findShortest_198 (by decide) rfl ?_
            refine pa_imul (pc' := 201) (v := nI (i * 7)) dX3_findShortest_200 (nI_mul _ _) rfl ?_
            refine pa_iload (pc' := 203) dX3_findShortest_201 (zget_s1 hl4 (by decide) (by simp [zcat])) rfl ?_
            refine pa_iadd (pc' := 204) (v := nI (i * 7 + j)) dX3_findShortest_203 (nI_add _ _) rfl ?_
            refine pa_aload_n (pc' := 205) dX3_findShortest_204 (zget_s1 hl0 (by decide) (by simp [zcat])) rfl ?_
            refine pa_getR (pc' := 208) (n := 4) (r := 98) dX3_findShortest_205 fl_3_15 s96 (by decide) r2 rfl ?_
            refine pa_iload_n (pc' := 209) dX3_findShortest_208 (zget_s1 hl3 (by decide) (by simp [zcat])) rfl ?_
            refine pa_bipush (v := nI 7) (pc' := 211) dX3_findShortest_209 (by decide) rfl ?_
            refine pa_imul (pc' := 212) (v := nI (i * 7)) dX3_findShortest_211 (nI_mul _ _) rfl ?_
            refine pa_iload (pc' := 214) dX3_findShortest_212 (zget_s1 hl4 (by decide) (by simp [zcat])) rfl ?_
            refine pa_iadd (pc' := 215) (v := nI (i * 7 + j)) dX3_findShortest_214 (nI_add _ _) rfl ?_
            refine pa_iald (pc' := 216) dX3_findShortest_215 s98 rfl (fun _ => ?_)
            rw [nI_clamp (by omega), a2]
            refine pa_iload (pc' := 218) dX3_findShortest_216 zget_s1e rfl ?_
            refine pa_mn (pc' := 221) dX3_findShortest_218 ml_3_76 (nI_min (by omega) (by omega)) rfl ?_
            refine pa_iast (pc' := 222) dX3_findShortest_221 s98 rfl (fun _ => ?_)
            rw [nI_clamp (by omega)]
            refine pa_iinc (pc' := 225) (v := nI (j + 1)) dX3_findShortest_222 (zget_s1 hl4 (by decide) (by simp [zcat])) (by decide) (nI_add j 1) rfl rfl ?_
            refine pa_gotos (pc' := 155) dX3_findShortest_225 (by decide) ?_
            exact ihN (j + 1) _ _ (by omega) (f.tr gF.st) (cf_st R n7 hi hj hk a1 a3 b3 c3) (zget_s1 (zget_s1 hl0 (by decide) (by simp [zcat])) (by decide) (by simp [zcat])) (zget_s1 (zget_s1 hl2 (by decide) (by simp [zcat])) (by decide) (by simp [zcat])) (zget_s1 (zget_s1 hl3 (by decide) (by simp [zcat])) (by decide) (by simp [zcat])) zget_s1e
        exact inn _ 0 _ g (Nat.zero_le _) f R (zget_s1 hl0 (by decide) (by simp [zcat])) (zget_s1 hl2 (by decide) (by simp [zcat])) (zget_s1 hl3 (by decide) (by simp [zcat])) zget_s1e
    exact mid (cI A) 0 _ _ g (Nat.zero_add _) f R (zget_s1 hl0 (by decide) (by simp [zcat])) (zget_s1 hl2 (by decide) (by simp [zcat])) zget_s1e
theorem N_short (B0 : bgC A c s h) (u : tU A) (r96 : h.2.2.2.1 96 0 = some c) (r2 : h.2.2.2.1 96 2 = some 98) (e4 : h.2.1 c 4 = nI (cI A)) : zPa d mX3_findShortest [.inr (.inr (some 96)), .inl s.2.1] h (fun v g => v = none ∧ gF 98 h g ∧ cfR (cI A) (roM A s.2.1) g) := by
  refine N_shortA B0 u r96 r2 (fun N ls g f R hl0 => ?_)
  have n7 := B0.1.1.2.2.1.1
  have k1 := B0.2.1.1
  have hc : c = 2 ∨ c = 42 := B0.2.1.2.1
  refine pa_iconst (v := nI 0) (pc' := 127) dX3_findShortest_126 (by decide) rfl ?_
  refine pa_istore_n (pc' := 128) dX3_findShortest_127 (by decide) rfl rfl ?_
  exact N_shortB k1 hc n7 r96 r2 e4 (cI A) 0 _ _ g (Nat.zero_add _) f R (zget_s1 hl0 (by decide) (by simp [zcat])) zget_s1e
/-- the rests -/
def tbR (n : Nat) (Mc : roX) (v : Nat) (h : zH) : Prop := ∀ w l, v < w → w < 2 ^ n → l < n → h.2.1 99 (w * 7 + l) = nI (cvF n Mc (n - rpc w 7) w l)
def mcR (n : Nat) (Mc : roX) (h : zH) : Prop := ∀ i j, i < n → j < n → Mc i j ≤ 1000000 ∧ h.2.1 98 (i * 7 + j) = nI (Mc i j)
theorem N_over {Mc : roX} (h1 : h.1 = hh_487.1) (n7 : n ≤ 7) (r2 : h.2.2.2.1 96 2 = some 98) (r3 : h.2.2.2.1 96 3 = some 99) (R : mcR n Mc h) (T : tbR n Mc v h) (hv : v < 2 ^ n) (hl : l < n) (hi : i < n) (hb : v.testBit i = false) : zPa d mX3_daysOver [.inr (.inr (some 96)), .inl (nI v), .inl (nI l), .inl (nI i)] h (fun r g => r = some (.inl (nI (Mc l i + cvF n Mc (n - (rpc v 7 + 1)) (v ||| 2 ^ i) i))) ∧ g = h) := by
  intro N
  have s96 : zsh h 96 = some (3, 4) := zsh_by h1 (by decide +kernel)
  have s98 : zsh h 98 = some (14, 49) := zsh_by h1 (by decide +kernel)
  have s99 : zsh h 99 = some (14, 896) := zsh_by h1 (by decide +kernel)
  have p7 := p7r n7
  obtain ⟨q1, q2, q3, q4⟩ := roB2 n (by omega) v hv i hi hb
  have e1 := (R l i hl hi).2
  have e2 := T (v ||| 2 ^ i) i q3 q2 hi
  rw [q1] at e2
  show zPn N none d mX3_daysOver (0, [(0, .inr (.inr (some 96))), (1, .inl (nI v)), (2, .inl (nI l)), (3, .inl (nI i))], [], h) _
  refine pa_aload_n (pc' := 1) dX3_daysOver_0 rfl rfl ?_
  refine pa_getR (pc' := 4) (n := 4) (r := 98) dX3_daysOver_1 fl_3_15 s96 (by decide) r2 rfl ?_
  refine pa_iload_n (pc' := 5) dX3_daysOver_4 rfl rfl ?_
  refine pa_bipush (v := nI 7) (pc' := 7) dX3_daysOver_5 (by decide) rfl ?_
  refine pa_imul (pc' := 8) (v := nI (l * 7)) dX3_daysOver_7 (nI_mul _ _) rfl ?_
  refine pa_iload_n (pc' := 9) dX3_daysOver_8 rfl rfl ?_
  refine pa_iadd (pc' := 10) (v := nI (l * 7 + i)) dX3_daysOver_9 (nI_add _ _) rfl ?_
  refine pa_iald (pc' := 11) dX3_daysOver_10 s98 rfl (fun _ => ?_)
  rw [nI_clamp (by omega), e1]
  refine pa_aload_n (pc' := 12) dX3_daysOver_11 rfl rfl ?_
  refine pa_getR (pc' := 15) (n := 4) (r := 99) dX3_daysOver_12 fl_3_18 s96 (by decide) r3 rfl ?_
  refine pa_iload_n (pc' := 16) dX3_daysOver_15 rfl rfl ?_
  refine pa_iconst (v := nI 1) (pc' := 17) dX3_daysOver_16 (by decide) rfl ?_
  refine pa_iload_n (pc' := 18) dX3_daysOver_17 rfl rfl ?_
  refine pa_ishl (pc' := 19) dX3_daysOver_18 rfl rfl ?_
  refine pa_ior (pc' := 20) dX3_daysOver_19 rfl rfl ?_
  rw [roS2 v (by omega) i (by omega)]
  refine pa_bipush (v := nI 7) (pc' := 22) dX3_daysOver_20 (by decide) rfl ?_
  refine pa_imul (pc' := 23) (v := nI ((v ||| 2 ^ i) * 7)) dX3_daysOver_22 (nI_mul _ _) rfl ?_
  refine pa_iload_n (pc' := 24) dX3_daysOver_23 rfl rfl ?_
  refine pa_iadd (pc' := 25) (v := nI ((v ||| 2 ^ i) * 7 + i)) dX3_daysOver_24 (nI_add _ _) rfl ?_
  refine pa_iald (pc' := 26) dX3_daysOver_25 s99 rfl (fun _ => ?_)
  rw [nI_clamp (by omega), e2]
  refine pa_iadd (pc' := 27) (v := nI (Mc l i + (cvF n Mc (n - (rpc v 7 + 1)) (v ||| 2 ^ i) i))) dX3_daysOver_26 (nI_add _ _) rfl ?_
  refine pa_iret dX3_daysOver_27 rfl rfl ?_
  exact ⟨rfl, rfl⟩
theorem N_rests {Mc : roX} (h1 : h.1 = hh_487.1) (hc : c = 2 ∨ c = 42) (n7 : n ≤ 7) (r96 : h.2.2.2.1 96 0 = some c) (r2 : h.2.2.2.1 96 2 = some 98) (r3 : h.2.2.2.1 96 3 = some 99) (e4 : h.2.1 c 4 = nI n) (R0 : mcR n Mc h) : zPa d mX3_findRests [.inr (.inr (some 96))] h (fun v g => v = none ∧ gF 99 h g ∧ tbR n Mc 0 g) := by
  intro N
  have p7 := p7r n7
  have pp := Nat.two_pow_pos n
  have FC : ∀ {g : zH}, gF 99 h g → g.1 = hh_487.1 ∧ zsh g 96 = some (3, 4) ∧ zsh g 99 = some (14, 896) ∧ zsh g c = some (4, 15) ∧ g.2.2.2.1 96 0 = some c ∧ g.2.2.2.1 96 2 = some 98 ∧ g.2.2.2.1 96 3 = some 99 ∧ g.2.1 c 4 = nI n ∧ mcR n Mc g := fun f => ⟨f.1.trans h1, zsh_by (f.1.trans h1) (by decide +kernel), zsh_by (f.1.trans h1) (by decide +kernel), by rcases hc with z | z <;> subst z <;> exact zsh_by (f.1.trans h1) (by decide +kernel), by rw [f.2.1]; exact r96, by rw [f.2.1]; exact r2, by rw [f.2.1]; exact r3, (f.2.2 _ _ (by omega)).trans e4, fun i j hi hj => ⟨(R0 i j hi hj).1, (f.2.2 _ _ (by decide)).trans (R0 i j hi hj).2⟩⟩
  have lp : ∀ (v N : Nat) (ls : zL) (g : zH), v < 2 ^ n → gF 99 h g → tbR n Mc v g → zget ls 0 = some (.inr (.inr (some 96))) → zget ls 1 = some (.inl (nI (2 ^ n - 1))) → zget ls 2 = some (.inl (nI v)) → zPn N none d mX3_findRests (14, ls, [], g) (fun v g => v = none ∧ gF 99 h g ∧ tbR n Mc 0 g) := by
    intro v
    induction v with
    | zero =>
      intro N ls g hv f T hl0 hl1 hl2
      refine pa_iload_n (pc' := 15) dX3_findRests_14 hl2 rfl ?_
      refine pa_if_t (pc' := 114) dX3_findRests_15 (by decide) (by decide) ?_
      refine pa_vret dX3_findRests_114 rfl ?_
      exact ⟨rfl, f, T⟩
    | succ v ih =>
      intro N ls g hv f T hl0 hl1 hl2
      obtain ⟨pc1, pc2⟩ := roB1 n (by omega) (v + 1) hv
      refine pa_iload_n (pc' := 15) dX3_findRests_14 hl2 rfl ?_
      refine pa_if_f (pc' := 18) dX3_findRests_15 (zle_f (by rw [nI_toInt (by omega)]; omega)) (by decide) rfl ?_
      refine pa_iconst (v := nI 0) (pc' := 19) dX3_findRests_18 (by decide) rfl ?_
      refine pa_istore_n (pc' := 20) dX3_findRests_19 (by decide) rfl rfl ?_
      have mid : ∀ (q l N : Nat) (ls : zL) (g : zH), l + q = n → gF 99 h g → tbR n Mc (v + 1) g → (∀ m, m < l → g.2.1 99 ((v + 1) * 7 + m) = nI (cvF n Mc (n - rpc (v + 1) 7) (v + 1) m)) → zget ls 0 = some (.inr (.inr (some 96))) → zget ls 1 = some (.inl (nI (2 ^ n - 1))) → zget ls 2 = some (.inl (nI (v + 1))) → zget ls 3 = some (.inl (nI l)) → zPn N none d mX3_findRests (20, ls, [], g) (fun v g => v = none ∧ gF 99 h g ∧ tbR n Mc 0 g) := by
        intro q
        induction q with
        | zero =>
          intro l N ls g hq f T P hl0 hl1 hl2 hl3
          obtain ⟨g1, s96, s99, sc, r96, r2, r3, e4, R⟩ := FC f
          have el : l = n := by omega
          refine pa_iload_n (pc' := 21) dX3_findRests_20 hl3 rfl ?_
          refine pa_aload_n (pc' := 22) dX3_findRests_21 hl0 rfl ?_
          refine pa_getR (pc' := 25) (n := 4) (r := c) dX3_findRests_22 fl_3_21 s96 (by decide) r96 rfl ?_
          refine pa_getI (pc' := 28) (n := 15) (v := nI n) dX3_findRests_25 fl_3_25 sc (by decide) e4 rfl ?_
          refine pa_icmp_t (pc' := 108) dX3_findRests_28 (zk_lt_ge (b := false) (zj_nlt (by rw [nI_toInt (by omega), nI_toInt (by omega)]; omega))) (by decide) ?_
          cases N with
          | zero => exact zPn.zero
          | succ N =>
            refine pa_iinc (pc' := 111) dX3_findRests_108 hl2 (by decide) rfl rfl rfl ?_
            refine pa_gotos (pc' := 14) dX3_findRests_111 (by decide) ?_
            refine ih N _ g (by omega) f (fun w m hw hw2 hm => ?_) (zget_s1 hl0 (by decide) (by simp [zcat])) (zget_s1 hl1 (by decide) (by simp [zcat])) (by rw [← dec2 (v := v)]; exact zget_s1e)
            by_cases z : w = v + 1
            · rw [z]
              exact P m (by omega)
            · exact T w m (by omega) hw2 hm
        | succ q ihq =>
          intro l N ls g hq f T P hl0 hl1 hl2 hl3
          have hl : l < n := by omega
          obtain ⟨g1, s96, s99, sc, r96', r2', r3', e4', R⟩ := FC f
          have wr : ∀ (ws : Nat → Nat), (∀ i, i < n → (v + 1).testBit i = true → ws (i + 1) = ws i) → (∀ i, i < n → (v + 1).testBit i = false → ws (i + 1) = min (ws i) (Mc l i + cvF n Mc (n - (rpc (v + 1) 7 + 1)) ((v + 1) ||| 2 ^ i) i)) → (∀ i, ws i ≤ 1000000) → ws n = cvF n Mc (n - rpc (v + 1) 7) (v + 1) l → ∀ (N i : Nat) (ls : zL), i ≤ n → zget ls 0 = some (.inr (.inr (some 96))) → zget ls 1 = some (.inl (nI (2 ^ n - 1))) → zget ls 2 = some (.inl (nI (v + 1))) → zget ls 3 = some (.inl (nI l)) → zget ls 4 = some (.inl (nI (ws i))) → zget ls 5 = some (.inl (nI i)) → zPn N none d mX3_findRests (47, ls, [], g) (fun v g => v = none ∧ gF 99 h g ∧ tbR n Mc 0 g) := by
            intro ws w1 w2 w3 w4 N
            induction N with
            | zero => intros; exact zPn.zero
            | succ N ihN =>
              intro i ls hi hl0 hl1 hl2 hl3 hl4 hl5
              have wi := w3 i
              refine pa_iload (pc' := 49) dX3_findRests_47 hl5 rfl ?_
              refine pa_aload_n (pc' := 50) dX3_findRests_49 hl0 rfl ?_
              refine pa_getR (pc' := 53) (n := 4) (r := c) dX3_findRests_50 fl_3_21 s96 (by decide) r96' rfl ?_
              refine pa_getI (pc' := 56) (n := 15) (v := nI n) dX3_findRests_53 fl_3_25 sc (by decide) e4' rfl ?_
              refine pa_icmp (pc' := 89) (pc2 := 59) dX3_findRests_56 (by decide) rfl (fun z => ?_) (fun z => ?_)
              · have z := zi_nlt (zk_ge_lt z)
                rw [nI_toInt (by omega), nI_toInt (by omega)] at z
                have ei : i = n := by omega
                refine pa_aload_n (pc' := 90) dX3_findRests_89 hl0 rfl ?_
                refine pa_getR (pc' := 93) (n := 4) (r := 99) dX3_findRests_90 fl_3_18 s96 (by decide) r3' rfl ?_
                refine pa_iload_n (pc' := 94) dX3_findRests_93 hl2 rfl ?_
                refine pa_bipush (v := nI 7) (pc' := 96) dX3_findRests_94 (by decide) rfl ?_
                refine pa_imul (pc' := 97) (v := nI ((v + 1) * 7)) dX3_findRests_96 (nI_mul _ _) rfl ?_
                refine pa_iload_n (pc' := 98) dX3_findRests_97 hl3 rfl ?_
                refine pa_iadd (pc' := 99) (v := nI ((v + 1) * 7 + l)) dX3_findRests_98 (nI_add _ _) rfl ?_
                refine pa_iload (pc' := 101) dX3_findRests_99 hl4 rfl ?_
                refine pa_iast (pc' := 102) dX3_findRests_101 s99 rfl (fun _ => ?_)
                rw [nI_clamp (by omega)]
                refine pa_iinc (pc' := 105) (v := nI (l + 1)) dX3_findRests_102 hl3 (by decide) (nI_add l 1) rfl rfl ?_
                refine pa_gotos (pc' := 20) dX3_findRests_105 (by decide) ?_
                refine ihq (l + 1) N _ _ (by omega) (f.tr gF.st) (fun w m hw hw2 hm => ?_) (fun m hm => ?_) (zget_s1 hl0 (by decide) (by simp [zcat])) (zget_s1 hl1 (by decide) (by simp [zcat])) (zget_s1 hl2 (by decide) (by simp [zcat])) zget_s1e
                · exact (zsI_no (by omega)).trans (T w m hw hw2 hm)
                · rw [zsI_at]
                  by_cases zm : m = l
                  · rw [if_pos ⟨rfl, by rw [zm]⟩, zm, ei, w4]
                  · rw [if_neg (by omega)]
                    exact P m (by omega)
              have z := zi_lt (zk_ge_lt z)
              rw [nI_toInt (by omega), nI_toInt (by omega)] at z
              have hi : i < n := by omega
              refine pa_iload_n (pc' := 60) dX3_findRests_59 hl2 rfl ?_
              refine pa_iload (pc' := 62) dX3_findRests_60 hl5 rfl ?_
              refine pa_ishr (pc' := 63) dX3_findRests_62 rfl rfl ?_
              refine pa_iconst (v := nI 1) (pc' := 64) dX3_findRests_63 (by decide) rfl ?_
              refine pa_iand (pc' := 65) dX3_findRests_64 rfl rfl ?_
              rw [roS1 (v + 1) (by omega) i (by omega)]
              by_cases y : (v + 1).testBit i = true
              · rw [if_pos y]
                refine pa_if_t (pc' := 83) dX3_findRests_65 (show zcond .ne (1 : Int32) 0 = true by decide) (by decide) ?_
                refine pa_iinc (pc' := 86) (v := nI (i + 1)) dX3_findRests_83 hl5 (by decide) (nI_add i 1) rfl rfl ?_
                refine pa_gotos (pc' := 47) dX3_findRests_86 (by decide) ?_
                exact ihN (i + 1) _ (by omega) (zget_s1 hl0 (by decide) (by simp [zcat])) (zget_s1 hl1 (by decide) (by simp [zcat])) (zget_s1 hl2 (by decide) (by simp [zcat])) (zget_s1 hl3 (by decide) (by simp [zcat])) (by rw [w1 i hi y]; exact (zget_s1 hl4 (by decide) (by simp [zcat]))) zget_s1e
              · have y2 : (v + 1).testBit i = false := Bool.eq_false_iff.mpr y
                have cl := cvF_le (n := n) (M := Mc) (n - (rpc (v + 1) 7 + 1)) ((v + 1) ||| 2 ^ i) i
                have ml := (R l i hl hi).1
                rw [if_neg y]
                refine pa_if_f (pc' := 68) dX3_findRests_65 (show zcond .ne (0 : Int32) 0 = false by decide) (by decide) rfl ?_
                refine pa_iload (pc' := 70) dX3_findRests_68 hl4 rfl ?_
                refine pa_aload_n (pc' := 71) dX3_findRests_70 hl0 rfl ?_
                refine pa_iload_n (pc' := 72) dX3_findRests_71 hl2 rfl ?_
                refine pa_iload_n (pc' := 73) dX3_findRests_72 hl3 rfl ?_
                refine pa_iload (pc' := 75) dX3_findRests_73 hl5 rfl ?_
                refine pa_callv (pc' := 78) (vs := [.inl (nI (v + 1)), .inl (nI l), .inl (nI i)]) (rest := [.inl (nI (ws i))]) dX3_findRests_75 ml_3_81 (by decide) rfl rfl rfl (fun d' _ => (N_over g1 n7 r2' r3' R T hv hl hi y2)) (fun v g9 hq => ?_)
                obtain ⟨ev, eh⟩ := hq
                subst ev
                rw [eh]
                show zPn (N + 1) none d mX3_findRests (78, _, [.inl (nI (Mc l i + cvF n Mc (n - (rpc (v + 1) 7 + 1)) ((v + 1) ||| 2 ^ i) i)), .inl (nI (ws i))], g) _
                refine pa_mn (pc' := 81) dX3_findRests_78 ml_3_76 (nI_min (by omega) (by omega)) rfl ?_
                refine pa_istore (pc' := 83) dX3_findRests_81 (by decide) rfl rfl ?_
                refine pa_iinc (pc' := 86) (v := nI (i + 1)) dX3_findRests_83 (zget_s1 hl5 (by decide) (by simp [zcat])) (by decide) (nI_add i 1) rfl rfl ?_
                refine pa_gotos (pc' := 47) dX3_findRests_86 (by decide) ?_
                exact ihN (i + 1) _ (by omega) (zget_s1 (zget_s1 hl0 (by decide) (by simp [zcat])) (by decide) (by simp [zcat])) (zget_s1 (zget_s1 hl1 (by decide) (by simp [zcat])) (by decide) (by simp [zcat])) (zget_s1 (zget_s1 hl2 (by decide) (by simp [zcat])) (by decide) (by simp [zcat])) (zget_s1 (zget_s1 hl3 (by decide) (by simp [zcat])) (by decide) (by simp [zcat])) (by rw [w2 i hi y2]; exact (zget_s1 zget_s1e (by decide) (by simp [zcat]))) zget_s1e
          refine pa_iload_n (pc' := 21) dX3_findRests_20 hl3 rfl ?_
          refine pa_aload_n (pc' := 22) dX3_findRests_21 hl0 rfl ?_
          refine pa_getR (pc' := 25) (n := 4) (r := c) dX3_findRests_22 fl_3_21 s96 (by decide) r96' rfl ?_
          refine pa_getI (pc' := 28) (n := 15) (v := nI n) dX3_findRests_25 fl_3_25 sc (by decide) e4' rfl ?_
          refine pa_icmp_f (pc' := 31) dX3_findRests_28 (zk_lt_ge (b := true) (zj_lt (by rw [nI_toInt (by omega), nI_toInt (by omega)]; omega))) (by decide) rfl ?_
          refine pa_iload_n (pc' := 32) dX3_findRests_31 hl2 rfl ?_
          refine pa_iload_n (pc' := 33) dX3_findRests_32 hl1 rfl ?_
          by_cases e : v + 1 = 2 ^ n - 1
          · have full : rpc (v + 1) 7 = n := pc2.mpr e
            refine pa_icmp_f (pc' := 36) dX3_findRests_33 (decide_eq_false (not_not_intro (by rw [e]))) (by decide) rfl ?_
            refine pa_iconst (v := nI 0) (pc' := 37) dX3_findRests_36 (by decide) rfl ?_
            refine pa_goto (pc' := 42) dX3_findRests_37 (by decide) ?_
            refine pa_istore (pc' := 44) dX3_findRests_42 (by decide) rfl rfl ?_
            refine pa_iconst (v := nI 0) (pc' := 45) dX3_findRests_44 (by decide) rfl ?_
            refine pa_istore (pc' := 47) dX3_findRests_45 (by decide) rfl rfl ?_
            exact wr (fun _ => 0) (fun i _ _ => rfl) (fun i hi y => by
              have := (roB3 n (by omega) i hi).1
              rw [← e, y] at this
              cases this) (fun _ => Nat.zero_le _) (by rw [full, Nat.sub_self]; rfl) _ 0 _ (Nat.zero_le _) (zget_s1 (zget_s1 hl0 (by decide) (by simp [zcat])) (by decide) (by simp [zcat])) (zget_s1 (zget_s1 hl1 (by decide) (by simp [zcat])) (by decide) (by simp [zcat])) (zget_s1 (zget_s1 hl2 (by decide) (by simp [zcat])) (by decide) (by simp [zcat])) (zget_s1 (zget_s1 hl3 (by decide) (by simp [zcat])) (by decide) (by simp [zcat])) (zget_s1 zget_s1e (by decide) (by simp [zcat])) zget_s1e
          · have nf : rpc (v + 1) 7 < n := by
              have : rpc (v + 1) 7 ≠ n := fun q => e (pc2.mp q)
              omega
            obtain ⟨r, er⟩ : ∃ r, n - rpc (v + 1) 7 = r + 1 := ⟨n - rpc (v + 1) 7 - 1, by omega⟩
            have er2 : n - (rpc (v + 1) 7 + 1) = r := by omega
            refine pa_icmp_t (pc' := 40) dX3_findRests_33 (decide_eq_true (fun q => e ((nI_eq (by omega) (by omega)).mp q))) (by decide) ?_
            refine pa_ldc (pc' := 42) dX3_findRests_40 cl_3_62 rfl rfl ?_
            refine pa_istore (pc' := 44) dX3_findRests_42 (by decide) rfl rfl ?_
            refine pa_iconst (v := nI 0) (pc' := 45) dX3_findRests_44 (by decide) rfl ?_
            refine pa_istore (pc' := 47) dX3_findRests_45 (by decide) rfl rfl ?_
            exact wr (fun i => cvS Mc (cvF n Mc r) (v + 1) l i) (fun i _ y => cvS_b y) (fun i _ y => by rw [er2]; exact cvS_n (by rw [y]; decide)) (fun i => cvS_le i) (by rw [er]; rfl) _ 0 _ (Nat.zero_le _) (zget_s1 (zget_s1 hl0 (by decide) (by simp [zcat])) (by decide) (by simp [zcat])) (zget_s1 (zget_s1 hl1 (by decide) (by simp [zcat])) (by decide) (by simp [zcat])) (zget_s1 (zget_s1 hl2 (by decide) (by simp [zcat])) (by decide) (by simp [zcat])) (zget_s1 (zget_s1 hl3 (by decide) (by simp [zcat])) (by decide) (by simp [zcat])) (zget_s1 zget_s1e (by decide) (by simp [zcat])) zget_s1e
      exact mid n 0 _ _ g (Nat.zero_add _) f T (fun m hm => absurd hm (Nat.not_lt_zero m)) (zget_s1 hl0 (by decide) (by simp [zcat])) (zget_s1 hl1 (by decide) (by simp [zcat])) (zget_s1 hl2 (by decide) (by simp [zcat])) zget_s1e
  obtain ⟨g1, s96, s99, sc, r96, r2, r3, e4, R⟩ := FC gF.rf
  show zPn N none d mX3_findRests (0, [(0, .inr (.inr (some 96)))], [], h) _
  refine pa_iconst (v := nI 1) (pc' := 1) dX3_findRests_0 (by decide) rfl ?_
  refine pa_aload_n (pc' := 2) dX3_findRests_1 rfl rfl ?_
  refine pa_getR (pc' := 5) (n := 4) (r := c) dX3_findRests_2 fl_3_21 s96 (by decide) r96 rfl ?_
  refine pa_getI (pc' := 8) (n := 15) (v := nI n) dX3_findRests_5 fl_3_25 sc (by decide) e4 rfl ?_
  refine pa_ishl (pc' := 9) dX3_findRests_8 rfl rfl ?_
  rw [roS3 n (by omega)]
  refine pa_iconst (v := nI 1) (pc' := 10) dX3_findRests_9 (by decide) rfl ?_
  refine pa_isub (pc' := 11) (v := nI ((2 ^ n) - 1)) dX3_findRests_10 (nI_sub (by omega)) rfl ?_
  refine pa_istore_n (pc' := 12) dX3_findRests_11 (by decide) rfl rfl ?_
  refine pa_iload_n (pc' := 13) dX3_findRests_12 rfl rfl ?_
  refine pa_istore_n (pc' := 14) dX3_findRests_13 (by decide) rfl rfl ?_
  exact lp (2 ^ n - 1) _ _ h (by omega) gF.rf (fun w m hw hw2 hm => by omega) rfl rfl rfl
/-- as the class looks it up -/
def tbM (n : Nat) (M : roX) (h : zH) : Prop := ∀ w l, 0 < w → w < 2 ^ n → l < n → w.testBit l = true → h.2.1 99 (w * 7 + l) = nI (cvF n M (n - rpc w 7) w l)
theorem N_nextOf {Mc : roX} (h1 : h.1 = hh_487.1) (hc : c = 2 ∨ c = 42) (n7 : n ≤ 7) (r96 : h.2.2.2.1 96 0 = some c) (r2 : h.2.2.2.1 96 2 = some 98) (r3 : h.2.2.2.1 96 3 = some 99) (e4 : h.2.1 c 4 = nI n) (R : mcR n Mc h) (T : tbR n Mc 0 h) (hM : ∀ i j, i < n → j < n → i ≠ j → Mc i j = M i j) (hu0 : 0 < u) (hu : u < 2 ^ n) (hl : l < n) (hb : u.testBit l = true) (er : n - rpc u 7 = r + 1) (lt : cvF n M (r + 1) u l < 1000000) : zPa d mX3_nextOf [.inr (.inr (some 96)), .inl (nI u), .inl (nI l)] h (fun v g => v = some (.inl (nI (nxF n M r u l))) ∧ g = h) := by
  intro N
  obtain ⟨k, ek, en, k1, k2, k3⟩ := nx_in lt
  rw [en]
  have s96 : zsh h 96 = some (3, 4) := zsh_by h1 (by decide +kernel)
  have s99 : zsh h 99 = some (14, 896) := zsh_by h1 (by decide +kernel)
  have sc : zsh h c = some (4, 15) := by rcases hc with z | z <;> subst z <;> exact zsh_by h1 (by decide +kernel)
  have p7 := p7r n7
  have e9 : h.2.1 99 (u * 7 + l) = nI (cvF n M (r + 1) u l) := by
    rw [T u l hu0 hu hl, er, cv_eq hM _ _ _ hl hb]
  have OV : ∀ d' i, i < n → u.testBit i = false → zPa d' mX3_daysOver [.inr (.inr (some 96)), .inl (nI u), .inl (nI l), .inl (nI i)] h (fun v g => v = some (.inl (nI (M l i + cvF n M r (u ||| 2 ^ i) i))) ∧ g = h) := fun d' i hi y => by
    have ne : l ≠ i := fun e => by rw [e, y] at hb; cases hb
    have := N_over (d := d') h1 n7 r2 r3 R (v := u) (fun w m hw hw2 hm => T w m (by omega) hw2 hm) hu hl hi y
    rw [hM l i hl hi ne, show n - (rpc u 7 + 1) = r by omega, cv_eq hM _ _ _ hi (roB2 n (by omega) u hu i hi y).2.2.2] at this
    exact this
  have lp : ∀ (N i : Nat) (ls : zL), i ≤ n → ncS M (cvF n M r) u l (cvF n M (r + 1) u l) i = none → zget ls 0 = some (.inr (.inr (some 96))) → zget ls 1 = some (.inl (nI u)) → zget ls 2 = some (.inl (nI l)) → zget ls 3 = some (.inl (nI i)) → zPn N none d mX3_nextOf (2, ls, [], h) (fun v g => v = some (.inl (nI k)) ∧ g = h) := by
    intro N
    induction N with
    | zero => intros; exact zPn.zero
    | succ N ih =>
      intro i ls hi no hl0 hl1 hl2 hl3
      have ns := ncS_n no
      refine pa_iload_n (pc' := 3) dX3_nextOf_2 hl3 rfl ?_
      refine pa_aload_n (pc' := 4) dX3_nextOf_3 hl0 rfl ?_
      refine pa_getR (pc' := 7) (n := 4) (r := c) dX3_nextOf_4 fl_3_21 s96 (by decide) r96 rfl ?_
      refine pa_getI (pc' := 10) (n := 15) (v := nI n) dX3_nextOf_7 fl_3_25 sc (by decide) e4 rfl ?_
      refine pa_icmp (pc' := 50) (pc2 := 13) dX3_nextOf_10 (by decide) rfl (fun z => ?_) (fun z => ?_)
      · have z := zi_nlt (zk_ge_lt z)
        rw [nI_toInt (by omega), nI_toInt (by omega)] at z
        have ei : i = n := by omega
        rw [ei, ek] at no
        cases no
      have z := zi_lt (zk_ge_lt z)
      rw [nI_toInt (by omega), nI_toInt (by omega)] at z
      have hi : i < n := by omega
      refine pa_iload_n (pc' := 14) dX3_nextOf_13 hl1 rfl ?_
      refine pa_iload_n (pc' := 15) dX3_nextOf_14 hl3 rfl ?_
      refine pa_ishr (pc' := 16) dX3_nextOf_15 rfl rfl ?_
      refine pa_iconst (v := nI 1) (pc' := 17) dX3_nextOf_16 (by decide) rfl ?_
      refine pa_iand (pc' := 18) dX3_nextOf_17 rfl rfl ?_
      rw [roS1 u (by omega) i (by omega)]
      by_cases y : u.testBit i = true
      · rw [if_neg (fun q => by rw [y] at q; exact absurd q.1 (by decide))] at ns
        rw [if_pos y]
        refine pa_if_t (pc' := 44) dX3_nextOf_18 (show zcond .ne (1 : Int32) 0 = true by decide) (by decide) ?_
        refine pa_iinc (pc' := 47) (v := nI (i + 1)) dX3_nextOf_44 hl3 (by decide) (nI_add i 1) rfl rfl ?_
        refine pa_gotos (pc' := 2) dX3_nextOf_47 (by decide) ?_
        exact ih (i + 1) _ (by omega) ns (zget_s1 hl0 (by decide) (by simp [zcat])) (zget_s1 hl1 (by decide) (by simp [zcat])) (zget_s1 hl2 (by decide) (by simp [zcat])) zget_s1e
      have y2 : u.testBit i = false := Bool.eq_false_iff.mpr y
      have cl := cvF_le (n := n) (M := M) r (u ||| 2 ^ i) i
      have cl2 := cvF_le (n := n) (M := M) (r + 1) u l
      have ml : M l i ≤ 1000000 := by
        have ne : l ≠ i := fun e => by rw [e, y2] at hb; cases hb
        rw [← hM l i hl hi ne]
        exact (R l i hl hi).1
      rw [if_neg y]
      refine pa_if_f (pc' := 21) dX3_nextOf_18 (show zcond .ne (0 : Int32) 0 = false by decide) (by decide) rfl ?_
      refine pa_aload_n (pc' := 22) dX3_nextOf_21 hl0 rfl ?_
      refine pa_iload_n (pc' := 23) dX3_nextOf_22 hl1 rfl ?_
      refine pa_iload_n (pc' := 24) dX3_nextOf_23 hl2 rfl ?_
      refine pa_iload_n (pc' := 25) dX3_nextOf_24 hl3 rfl ?_
      refine pa_callv (pc' := 28) (vs := [.inl (nI u), .inl (nI l), .inl (nI i)]) (rest := []) dX3_nextOf_25 ml_3_81 (by decide) rfl rfl rfl (fun d' _ => (OV d' i hi y2)) (fun v g9 hq => ?_)
      obtain ⟨ev, eh⟩ := hq
      subst ev
      rw [eh]
      show zPn (N + 1) none d mX3_nextOf (28, _, [.inl (nI (M l i + cvF n M r (u ||| 2 ^ i) i))], h) _
      refine pa_aload_n (pc' := 29) dX3_nextOf_28 hl0 rfl ?_
      refine pa_getR (pc' := 32) (n := 4) (r := 99) dX3_nextOf_29 fl_3_18 s96 (by decide) r3 rfl ?_
      refine pa_iload_n (pc' := 33) dX3_nextOf_32 hl1 rfl ?_
      refine pa_bipush (v := nI 7) (pc' := 35) dX3_nextOf_33 (by decide) rfl ?_
      refine pa_imul (pc' := 36) (v := nI (u * 7)) dX3_nextOf_35 (nI_mul _ _) rfl ?_
      refine pa_iload_n (pc' := 37) dX3_nextOf_36 hl2 rfl ?_
      refine pa_iadd (pc' := 38) (v := nI (u * 7 + l)) dX3_nextOf_37 (nI_add _ _) rfl ?_
      refine pa_iald (pc' := 39) dX3_nextOf_38 s99 rfl (fun _ => ?_)
      rw [nI_clamp (by omega), e9]
      by_cases q : M l i + cvF n M r (u ||| 2 ^ i) i = cvF n M (r + 1) u l
      · rw [if_pos ⟨y2, q⟩] at ns
        have := ncS_up ns n (by omega)
        rw [ek] at this
        cases this
        refine pa_icmp_f (pc' := 42) dX3_nextOf_39 (decide_eq_false (not_not_intro (by rw [q]))) (by decide) rfl ?_
        refine pa_iload_n (pc' := 43) dX3_nextOf_42 hl3 rfl ?_
        refine pa_iret dX3_nextOf_43 rfl rfl ?_
        exact ⟨rfl, rfl⟩
      · rw [if_neg (fun w => q w.2)] at ns
        refine pa_icmp_t (pc' := 44) dX3_nextOf_39 (decide_eq_true (fun w => q ((nI_eq (by omega) (by omega)).mp w))) (by decide) ?_
        refine pa_iinc (pc' := 47) (v := nI (i + 1)) dX3_nextOf_44 hl3 (by decide) (nI_add i 1) rfl rfl ?_
        refine pa_gotos (pc' := 2) dX3_nextOf_47 (by decide) ?_
        exact ih (i + 1) _ (by omega) ns (zget_s1 hl0 (by decide) (by simp [zcat])) (zget_s1 hl1 (by decide) (by simp [zcat])) (zget_s1 hl2 (by decide) (by simp [zcat])) zget_s1e
  show zPn N none d mX3_nextOf (0, [(0, .inr (.inr (some 96))), (1, .inl (nI u)), (2, .inl (nI l))], [], h) _
  refine pa_iconst (v := nI 0) (pc' := 1) dX3_nextOf_0 (by decide) rfl ?_
  refine pa_istore_n (pc' := 2) dX3_nextOf_1 (by decide) rfl rfl ?_
  exact lp _ 0 _ (Nat.zero_le _) rfl rfl rfl rfl rfl
def orF (n : Nat) (M : roX) (i p : Nat) : Nat := if p = 0 then i else oaF n M (n - 1) (2 ^ i) i p
def fnR (n : Nat) (M : roX) (i : Nat) (v : Option zV) (g : zH) : Prop := (cvF n M (n - 1) (2 ^ i) i < 1000000 ∧ v = some (.inl (nI (cvF n M (n - 1) (2 ^ i) i))) ∧ ∀ p, p < n → g.2.1 97 p = nI (orF n M i p)) ∨ (¬ cvF n M (n - 1) (2 ^ i) i < 1000000 ∧ v = some (.inl (-2)))
theorem N_order {Mc : roX} (h1 : h.1 = hh_487.1) (hc : c = 2 ∨ c = 42) (n7 : n ≤ 7) (r96 : h.2.2.2.1 96 0 = some c) (r1 : h.2.2.2.1 96 1 = some 97) (r2 : h.2.2.2.1 96 2 = some 98) (r3 : h.2.2.2.1 96 3 = some 99) (e4 : h.2.1 c 4 = nI n) (R : mcR n Mc h) (T : tbR n Mc 0 h) (hM : ∀ i j, i < n → j < n → i ≠ j → Mc i j = M i j) (hi : i < n) (lt : cvF n M (n - 1) (2 ^ i) i < 1000000) : ∀ (N k u l : Nat) (ls : zL) (g : zH), 1 ≤ k → k ≤ n → gF 97 h g → 0 < u → u < 2 ^ n → l < n → u.testBit l = true → rpc u 7 = k → cvF n M (n - k) u l < 1000000 → (∀ p, k ≤ p → p < n → oaF n M (n - k) u l p = oaF n M (n - 1) (2 ^ i) i p) → (∀ p, p < k → g.2.1 97 p = nI (orF n M i p)) → g.2.1 97 (k - 1) = nI l → zget ls 0 = some (.inr (.inr (some 96))) → zget ls 3 = some (.inl (nI (cvF n M (n - 1) (2 ^ i) i))) → zget ls 4 = some (.inl (nI u)) → zget ls 5 = some (.inl (nI k)) → zPn N none d mX3_findRound (47, ls, [], g) (fun v g => gF 97 h g ∧ fnR n M i v g) := by
  have p7 := p7r n7
  intro N
  induction N with
  | zero => intros; exact zPn.zero
  | succ N ih =>
    intro k u l ls g hk1 hk f hu0 hu hl hb pu cu ou og ol hl0 hl3 hl4 hl5
    have g1 := f.1.trans h1
    have s96 : zsh g 96 = some (3, 4) := zsh_by g1 (by decide +kernel)
    have s97 : zsh g 97 = some (14, 7) := zsh_by g1 (by decide +kernel)
    have sc : zsh g c = some (4, 15) := by rcases hc with z | z <;> subst z <;> exact zsh_by g1 (by decide +kernel)
    have r96 : g.2.2.2.1 96 0 = some c := by rw [f.2.1]; exact r96
    have r1 : g.2.2.2.1 96 1 = some 97 := by rw [f.2.1]; exact r1
    have r2 : g.2.2.2.1 96 2 = some 98 := by rw [f.2.1]; exact r2
    have r3 : g.2.2.2.1 96 3 = some 99 := by rw [f.2.1]; exact r3
    have e4 : g.2.1 c 4 = nI n := (f.2.2 _ _ (by omega)).trans e4
    have R : mcR n Mc g := fun a b ha hb => ⟨(R a b ha hb).1, (f.2.2 _ _ (by decide)).trans (R a b ha hb).2⟩
    have T : tbR n Mc 0 g := fun a b x y z => (f.2.2 _ _ (by decide)).trans (T a b x y z)
    have cl := cvF_le (n := n) (M := M) (n - 1) (2 ^ i) i
    refine pa_iload (pc' := 49) dX3_findRound_47 hl5 rfl ?_
    refine pa_aload_n (pc' := 50) dX3_findRound_49 hl0 rfl ?_
    refine pa_getR (pc' := 53) (n := 4) (r := c) dX3_findRound_50 fl_3_21 s96 (by decide) r96 rfl ?_
    refine pa_getI (pc' := 56) (n := 15) (v := nI n) dX3_findRound_53 fl_3_25 sc (by decide) e4 rfl ?_
    refine pa_icmp (pc' := 101) (pc2 := 59) dX3_findRound_56 (by decide) rfl (fun z => ?_) (fun z => ?_)
    · have z := zi_nlt (zk_ge_lt z)
      rw [nI_toInt (by omega), nI_toInt (by omega)] at z
      refine pa_iload_n (pc' := 102) dX3_findRound_101 hl3 rfl ?_
      refine pa_iret dX3_findRound_102 rfl rfl ?_
      exact ⟨f, .inl ⟨lt, rfl, fun p hp => og p (by omega)⟩⟩
    have z := zi_lt (zk_ge_lt z)
    rw [nI_toInt (by omega), nI_toInt (by omega)] at z
    have hk2 : k < n := by omega
    obtain ⟨r, er⟩ : ∃ r, n - k = r + 1 := ⟨n - k - 1, by omega⟩
    rw [er] at cu ou
    obtain ⟨m, em, en, m1, m2, m3⟩ := nx_in cu
    have er2 : n - (k + 1) = r := by omega
    obtain ⟨q1, q2, q3, q4⟩ := roB2 n (by omega) u hu m m1 m2
    have NX : ∀ d', zPa d' mX3_nextOf [.inr (.inr (some 96)), .inl (nI u), .inl (nI l)] g (fun v g' => v = some (.inl (nI m)) ∧ g' = g) := fun d' => by
      have := N_nextOf (d := d') (M := M) (r := r) g1 hc n7 r96 r2 r3 e4 R T hM hu0 hu hl hb (by rw [pu, er]) cu
      rw [en] at this
      exact this
    have ok : oaF n M (n - 1) (2 ^ i) i k = m := by
      rw [← ou k (Nat.le_refl _) hk2]
      show (if k = n - (r + 1) then nxF n M r u l else _) = m
      rw [if_pos (by omega), en]
    have ou2 : ∀ p, k + 1 ≤ p → p < n → oaF n M (n - (k + 1)) (u ||| 2 ^ m) m p = oaF n M (n - 1) (2 ^ i) i p := fun p p1 p2 => by
      rw [← ou p (by omega) p2, er2]
      show _ = if p = n - (r + 1) then _ else oaF n M r (u ||| 2 ^ nxF n M r u l) (nxF n M r u l) p
      rw [if_neg (by omega), en]
    have om : (zsI g 97 k (nI m)).2.1 97 k = nI m := zsI_eq
    refine pa_aload_n (pc' := 60) dX3_findRound_59 hl0 rfl ?_
    refine pa_getR (pc' := 63) (n := 4) (r := 97) dX3_findRound_60 fl_3_9 s96 (by decide) r1 rfl ?_
    refine pa_iload (pc' := 65) dX3_findRound_63 hl5 rfl ?_
    refine pa_aload_n (pc' := 66) dX3_findRound_65 hl0 rfl ?_
    refine pa_iload (pc' := 68) dX3_findRound_66 hl4 rfl ?_
    refine pa_aload_n (pc' := 69) dX3_findRound_68 hl0 rfl ?_
    refine pa_getR (pc' := 72) (n := 4) (r := 97) dX3_findRound_69 fl_3_9 s96 (by decide) r1 rfl ?_
    refine pa_iload (pc' := 74) dX3_findRound_72 hl5 rfl ?_
    refine pa_iconst (v := nI 1) (pc' := 75) dX3_findRound_74 (by decide) rfl ?_
    refine pa_isub (pc' := 76) (v := nI (k - 1)) dX3_findRound_75 (nI_sub (by omega)) rfl ?_
    refine pa_iald (pc' := 77) dX3_findRound_76 s97 rfl (fun _ => ?_)
    rw [nI_clamp (by omega), ol]
    refine pa_callv (pc' := 80) (vs := [.inl (nI u), .inl (nI l)]) (rest := [.inl (nI k), .inr (.inr (some 97))]) dX3_findRound_77 ml_3_63 (by decide) rfl rfl rfl (fun d' _ => (NX d')) (fun v g9 hq => ?_)
    obtain ⟨ev, eh⟩ := hq
    subst ev
    rw [eh]
    show zPn (N + 1) none d mX3_findRound (80, _, [.inl (nI m), .inl (nI k), .inr (.inr (some 97))], g) _
    refine pa_iast (pc' := 81) dX3_findRound_80 s97 rfl (fun _ => ?_)
    rw [nI_clamp (by omega)]
    refine pa_iload (pc' := 83) dX3_findRound_81 hl4 rfl ?_
    refine pa_iconst (v := nI 1) (pc' := 84) dX3_findRound_83 (by decide) rfl ?_
    refine pa_aload_n (pc' := 85) dX3_findRound_84 hl0 rfl ?_
    refine pa_getR (pc' := 88) (n := 4) (r := 97) dX3_findRound_85 fl_3_9 s96 (by decide) r1 rfl ?_
    refine pa_iload (pc' := 90) dX3_findRound_88 hl5 rfl ?_
    refine pa_iald (pc' := 91) dX3_findRound_90 s97 rfl (fun _ => ?_)
    rw [nI_clamp (by omega), om]
    refine pa_ishl (pc' := 92) dX3_findRound_91 rfl rfl ?_
    refine pa_ior (pc' := 93) dX3_findRound_92 rfl rfl ?_
    rw [roS2 u (by omega) m (by omega)]
    refine pa_istore (pc' := 95) dX3_findRound_93 (by decide) rfl rfl ?_
    refine pa_iinc (pc' := 98) (v := nI (k + 1)) dX3_findRound_95 (zget_s1 hl5 (by decide) (by simp [zcat])) (by decide) (nI_add k 1) rfl rfl ?_
    refine pa_gotos (pc' := 47) dX3_findRound_98 (by decide) ?_
    refine ih (k + 1) (u ||| 2 ^ m) m _ _ (by omega) (by omega) (f.tr gF.st) (by omega) q2 m1 q4 (by rw [q1, pu]) (by rw [er2]; omega) ou2 (fun p hp => ?_) (by rw [Nat.add_sub_cancel]; exact zsI_eq) (zget_s1 (zget_s1 hl0 (by decide) (by simp [zcat])) (by decide) (by simp [zcat])) (zget_s1 (zget_s1 hl3 (by decide) (by simp [zcat])) (by decide) (by simp [zcat])) (zget_s1 zget_s1e (by decide) (by simp [zcat])) zget_s1e
    rw [zsI_at]
    by_cases zp : p = k
    · rw [if_pos ⟨rfl, zp⟩, zp]
      unfold orF
      rw [if_neg (by omega), ok]
    · rw [if_neg (fun q => zp q.2)]
      exact og p (by omega)
theorem N_findRound (B0 : bgC A c s h) (u : tU A) (r96 : h.2.2.2.1 96 0 = some c) (r1 : h.2.2.2.1 96 1 = some 97) (r2 : h.2.2.2.1 96 2 = some 98) (r3 : h.2.2.2.1 96 3 = some 99) (e4 : h.2.1 c 4 = nI (cI A)) (hi : i < cI A) : zPa d mX3_findRound [.inr (.inr (some 96)), .inl (nI i), .inl s.2.1] h (fun v g => gP h g ∧ fnR (cI A) (roM A s.2.1) i v g) := by
  intro N
  obtain ⟨hI, hT, hB, hN⟩ := B0.1
  obtain ⟨n7, b2, b3, b4, b5⟩ := hI.2.2.1
  have p7 := p7r n7
  have h1 := B0.2.1.1
  have hc : c = 2 ∨ c = 42 := B0.2.1.2.1
  have s96 : zsh h 96 = some (3, 4) := zsh_by h1 (by decide +kernel)
  show zPn N none d mX3_findRound (0, [(0, .inr (.inr (some 96))), (1, .inl (nI i)), (2, .inl s.2.1)], [], h) _
  refine pa_aload_n (pc' := 1) dX3_findRound_0 rfl rfl ?_
  refine pa_iload_n (pc' := 2) dX3_findRound_1 rfl rfl ?_
  refine pa_callv (pc' := 5) (vs := [.inl s.2.1]) (rest := []) dX3_findRound_2 ml_3_55 (by decide) rfl rfl rfl (fun d' _ => (N_short B0 u r96 r2 e4)) (fun v g1 hq => ?_)
  obtain ⟨ev, eh⟩ := hq
  subst ev
  show zPn N none d mX3_findRound (5, _, [], g1) _
  obtain ⟨f1, R1⟩ := eh
  have hh1 := f1.1.trans h1
  have mc : ∃ Mc : roX, mcR (cI A) Mc g1 ∧ ∀ i j, i < cI A → j < cI A → i ≠ j → Mc i j = roM A s.2.1 i j := by
    refine ⟨fun i j => (g1.2.1 98 (i * 7 + j)).toInt.toNat, fun i j hi hj => ?_, fun i j hi hj ne => ?_⟩
    · obtain ⟨v, v1, v2, -⟩ := R1 i j hi hj
      show (g1.2.1 98 (i * 7 + j)).toInt.toNat ≤ 1000000 ∧ g1.2.1 98 (i * 7 + j) = nI (g1.2.1 98 (i * 7 + j)).toInt.toNat
      rw [v2, nI_toInt (by omega)]
      exact ⟨by omega, by rw [Int.toNat_natCast]⟩
    · obtain ⟨v, v1, v2, v3⟩ := R1 i j hi hj
      show (g1.2.1 98 (i * 7 + j)).toInt.toNat = _
      rw [v2, nI_toInt (by omega), Int.toNat_natCast]
      exact v3 ne
  obtain ⟨Mc, R, hM⟩ := mc
  have s96a : zsh g1 96 = some (3, 4) := zsh_by hh1 (by decide +kernel)
  refine pa_aload_n (pc' := 6) dX3_findRound_5 rfl rfl ?_
  refine pa_callv (pc' := 9) (vs := []) (rest := []) dX3_findRound_6 ml_3_59 (by decide) rfl rfl rfl (fun d' _ => (N_rests hh1 hc n7 (by rw [f1.2.1]; exact r96) (by rw [f1.2.1]; exact r2) (by rw [f1.2.1]; exact r3) ((f1.2.2 _ _ (by omega)).trans e4) R)) (fun v g2 hq => ?_)
  obtain ⟨ev, eh⟩ := hq
  subst ev
  show zPn N none d mX3_findRound (9, _, [], g2) _
  obtain ⟨f2, T⟩ := eh
  have hh2 := f2.1.trans hh1
  have s96b : zsh g2 96 = some (3, 4) := zsh_by hh2 (by decide +kernel)
  have s97 : zsh g2 97 = some (14, 7) := zsh_by hh2 (by decide +kernel)
  have s99 : zsh g2 99 = some (14, 896) := zsh_by hh2 (by decide +kernel)
  have q96 : g2.2.2.2.1 96 0 = some c := by rw [f2.2.1, f1.2.1]; exact r96
  have q1 : g2.2.2.2.1 96 1 = some 97 := by rw [f2.2.1, f1.2.1]; exact r1
  have q2 : g2.2.2.2.1 96 2 = some 98 := by rw [f2.2.1, f1.2.1]; exact r2
  have q3 : g2.2.2.2.1 96 3 = some 99 := by rw [f2.2.1, f1.2.1]; exact r3
  have q4 : g2.2.1 c 4 = nI (cI A) := (f2.2.2 _ _ (by omega)).trans ((f1.2.2 _ _ (by omega)).trans e4)
  have R2 : mcR (cI A) Mc g2 := fun a b ha hb => ⟨(R a b ha hb).1, (f2.2.2 _ _ (by decide)).trans (R a b ha hb).2⟩
  obtain ⟨-, t2, t3, t4⟩ := roB3 (cI A) (by omega) i hi
  have tp := Nat.two_pow_pos i
  have e9 : g2.2.1 99 (2 ^ i * 7 + i) = nI (cvF (cI A) (roM A s.2.1) (cI A - 1) (2 ^ i) i) := by
    rw [T (2 ^ i) i tp t3 hi, t2, cv_eq hM _ _ _ hi t4]
  have cl := cvF_le (n := cI A) (M := roM A s.2.1) (cI A - 1) (2 ^ i) i
  have f99 : gP h g2 := f1.gp.tr ⟨f2.1, f2.2.1, fun b k e => f2.2.2 b k (by omega)⟩
  refine pa_aload_n (pc' := 10) dX3_findRound_9 rfl rfl ?_
  refine pa_getR (pc' := 13) (n := 4) (r := 99) dX3_findRound_10 fl_3_18 s96b (by decide) q3 rfl ?_
  refine pa_iconst (v := nI 1) (pc' := 14) dX3_findRound_13 (by decide) rfl ?_
  refine pa_iload_n (pc' := 15) dX3_findRound_14 rfl rfl ?_
  refine pa_ishl (pc' := 16) dX3_findRound_15 rfl rfl ?_
  rw [roS3 i (by omega)]
  refine pa_bipush (v := nI 7) (pc' := 18) dX3_findRound_16 (by decide) rfl ?_
  refine pa_imul (pc' := 19) (v := nI ((2 ^ i) * 7)) dX3_findRound_18 (nI_mul _ _) rfl ?_
  refine pa_iload_n (pc' := 20) dX3_findRound_19 rfl rfl ?_
  refine pa_iadd (pc' := 21) (v := nI ((2 ^ i) * 7 + i)) dX3_findRound_20 (nI_add _ _) rfl ?_
  refine pa_iald (pc' := 22) dX3_findRound_21 s99 rfl (fun _ => ?_)
  rw [nI_clamp (by omega), e9]
  refine pa_istore_n (pc' := 23) dX3_findRound_22 (by decide) rfl rfl ?_
  refine pa_iload_n (pc' := 24) dX3_findRound_23 rfl rfl ?_
  refine pa_ldc (pc' := 26) dX3_findRound_24 cl_3_62 rfl rfl ?_
  by_cases lt : cvF (cI A) (roM A s.2.1) (cI A - 1) (2 ^ i) i < 1000000
  case neg =>
    refine pa_icmp_f (pc' := 29) dX3_findRound_26 (zj_nlt (by rw [nI_toInt (by omega), show (1000000 : Int32).toInt = 1000000 by decide]; omega)) (by decide) rfl ?_
    refine pa_bipush (v := (-2)) (pc' := 31) dX3_findRound_29 (by decide) rfl ?_
    refine pa_iret dX3_findRound_31 rfl rfl ?_
    exact ⟨f99, .inr ⟨lt, rfl⟩⟩
  refine pa_icmp_t (pc' := 32) dX3_findRound_26 (zj_lt (by rw [nI_toInt (by omega), show (1000000 : Int32).toInt = 1000000 by decide]; omega)) (by decide) ?_
  refine pa_iconst (v := nI 1) (pc' := 33) dX3_findRound_32 (by decide) rfl ?_
  refine pa_iload_n (pc' := 34) dX3_findRound_33 rfl rfl ?_
  refine pa_ishl (pc' := 35) dX3_findRound_34 rfl rfl ?_
  rw [roS3 i (by omega)]
  refine pa_istore (pc' := 37) dX3_findRound_35 (by decide) rfl rfl ?_
  refine pa_aload_n (pc' := 38) dX3_findRound_37 rfl rfl ?_
  refine pa_getR (pc' := 41) (n := 4) (r := 97) dX3_findRound_38 fl_3_9 s96b (by decide) q1 rfl ?_
  refine pa_iconst (v := nI 0) (pc' := 42) dX3_findRound_41 (by decide) rfl ?_
  refine pa_iload_n (pc' := 43) dX3_findRound_42 rfl rfl ?_
  refine pa_iast (pc' := 44) dX3_findRound_43 s97 rfl (fun _ => ?_)
  rw [nI_clamp (by omega)]
  refine pa_iconst (v := nI 1) (pc' := 45) dX3_findRound_44 (by decide) rfl ?_
  refine pa_istore (pc' := 47) dX3_findRound_45 (by decide) rfl rfl ?_
  have F97 : gF 97 g2 (zsI g2 97 0 (nI i)) := gF.st
  refine (N_order (Mc := Mc) (M := roM A s.2.1) (h := zsI g2 97 0 (nI i)) hh2 hc n7 q96 q1 q2 q3 ((zsI_no (by omega)).trans q4) (fun a b ha hb => ⟨(R2 a b ha hb).1, (zsI_no (by omega)).trans (R2 a b ha hb).2⟩) (fun a b x y z => (zsI_no (by omega)).trans (T a b x y z)) hM hi lt _ 1 (2 ^ i) i _ _ (Nat.le_refl _) (by omega) gF.rf tp t3 hi t4 t2 lt (fun p _ _ => rfl) (fun p hp => ?_) zsI_eq rfl rfl rfl rfl).mono (fun v g hq => ⟨f99.tr ⟨hq.1.1, hq.1.2.1, fun b k e => (hq.1.2.2 b k (by omega)).trans (zsI_no (by omega))⟩, hq.2⟩)
  rw [show p = 0 by omega]
  exact zsI_eq
theorem N_round11 (z : lZ A c s H J h) (hi : lInv t h) (hx0 : lX A c s H J h) : zPa d mX11_round [.inr (.inr (some 0)), .inl x] h (fun v _ => v = some (.inl (roV A s x))) := by
  intro N
  have h1 := hi.2.2.2.2.1
  have hA := z.1.1
  have hT := z.1.2.1
  have hB := z.1.2.2
  have hI := hA.1
  have hN := z.2.1.1
  have K := hA.2.2.2.1
  have hc2 : c = 2 ∨ c = 42 := hA.2.1
  obtain ⟨b1, b2, b3, b4, b5⟩ := hI.2.2.1
  have s0 : zsh h 0 = some (11, 16) := zsh_by h1 (by decide +kernel)
  obtain ⟨sc, sc1, sc2, sc4, sc5, scw, scb⟩ := cSh hA.2.1 h1
  obtain ⟨c9, c12, c13, cw, cb⟩ := cRf_of hi.1 hA.2.1
  have S := hi.nw
  obtain ⟨⟨s86, s87, s88, s89, s90, s91⟩, r87, r88, r89, r90, r91⟩ := S.o86
  have r3 := hA.2.2.1
  have r6 := S.2.1
  obtain ⟨n1, n2, n3, n4⟩ := z.2.2.1.1
  show zPn N none d mX11_round (0, [(0, .inr (.inr (some 0))), (1, .inl x)], [], h) _
  refine pa_aload_n (pc' := 1) dX11_round_0 rfl rfl ?_
  refine pa_iload_n (pc' := 2) dX11_round_1 rfl rfl ?_
  refine pa_callv (pc' := 5) (vs := [.inl x]) (rest := []) dX11_round_2 ml_11_174 (by decide) rfl rfl rfl (fun d' _ => (N_isI11 hA h1)) (fun v g9 hq => ?_)
  obtain ⟨ev, eh⟩ := hq
  subst ev
  rw [eh]
  show zPn N none d mX11_round (5, _, [.inl (if 0 ≤ x.toInt ∧ x.toInt < (cI A:Int) then 1 else 0)], h) _
  by_cases hx : 0 ≤ x.toInt ∧ x.toInt < (cI A : Int)
  case neg =>
    rw [if_neg hx]
    refine pa_if_t (pc' := 30) dX11_round_5 (by decide) (by decide) ?_
    refine pa_aload_n (pc' := 31) dX11_round_30 rfl rfl ?_
    refine pa_iconst (v := nI 1) (pc' := 32) dX11_round_31 (by decide) rfl ?_
    refine pa_callv (pc' := 35) (vs := [.inl (nI 1)]) (rest := []) dX11_round_32 ml_11_98 (by decide) rfl rfl rfl (fun d' _ => (c_ref s0)) (fun v g hq => ?_)
    obtain ⟨ev, eh⟩ := hq
    subst ev
    show zPn N none d mX11_round (35, _, [.inl ((-1))], g) _
    refine pa_iret dX11_round_35 rfl rfl ?_
    unfold roV
    rw [if_neg hx]
  rw [if_pos hx]
  obtain ⟨i, rfl, hi2, ei⟩ := nI_ob hx.1 hx.2
  have V : roV A s (nI i) = if roT A s i < 1000000 then nI (roT A s i) else -2 := by
    unfold roV
    rw [if_pos hx, ei]
  rw [V]
  have B := z.bc hi (show cI A ≠ 0 by omega)
  have r9 : h.2.2.2.1 0 9 = some 96 := hi.1.2.2.1 0 9 96 (by decide +kernel)
  have r96 := (hi.r92 hA).2.2
  have e4 := B.2.2.1.2.2.2.1.2.2.2
  refine pa_if_f (pc' := 8) dX11_round_5 (by decide) (by decide) rfl ?_
  refine pa_aload_n (pc' := 9) dX11_round_8 rfl rfl ?_
  refine pa_aload_n (pc' := 10) dX11_round_9 rfl rfl ?_
  refine pa_getR (pc' := 13) (n := 16) (r := 96) dX11_round_10 fl_11_67 s0 (by decide) r9 rfl ?_
  refine pa_iload_n (pc' := 14) dX11_round_13 rfl rfl ?_
  refine pa_aload_n (pc' := 15) dX11_round_14 rfl rfl ?_
  refine pa_getR (pc' := 18) (n := 16) (r := 86) dX11_round_15 fl_11_42 s0 (by decide) r6 rfl ?_
  refine pa_getI (pc' := 21) (n := 7) (v := s.2.1) dX11_round_18 fl_11_322 s86 (by decide) n2 rfl ?_
  refine pa_callv (pc' := 24) (vs := [.inl (nI i), .inl s.2.1]) (rest := [.inr (.inr (some 0))]) dX11_round_21 ml_11_328 (by decide) rfl rfl rfl (fun d' _ => N_findRound (d := d') B hx0.1 r96 (hi.1.2.2.1 96 1 97 (by decide +kernel)) (hi.1.2.2.1 96 2 98 (by decide +kernel)) (hi.1.2.2.1 96 3 99 (by decide +kernel)) e4 hi2) (fun v g hq => ?_)
  obtain ⟨f, hq⟩ := hq
  have s0g : zsh g 0 = some (11, 16) := zsh_by (f.1.trans h1) (by decide +kernel)
  rcases hq with ⟨lt, ev, -⟩ | ⟨lt, ev⟩
  · subst ev
    rw [if_pos (show roT A s i < 1000000 from lt)]
    show zPn N none d mX11_round (24, _, [.inl (nI (roT A s i)), .inr (.inr (some 0))], g) _
    refine pa_callv (pc' := 27) (vs := [.inl (nI (roT A s i))]) (rest := []) dX11_round_24 ml_11_112 (by decide) rfl rfl rfl (fun d' _ => (c_gra s0g)) (fun v g3 hq => ?_)
    obtain ⟨ev, eh⟩ := hq
    subst ev
    show zPn N none d mX11_round (27, _, [.inl (nI ((roT A s i)))], g3) _
    refine pa_goto (pc' := 35) dX11_round_27 (by decide) ?_
    refine pa_iret dX11_round_35 rfl rfl ?_
    rfl
  · subst ev
    rw [if_neg (show ¬ roT A s i < 1000000 from lt)]
    show zPn N none d mX11_round (24, _, [.inl (-2), .inr (.inr (some 0))], g) _
    refine pa_callv (pc' := 27) (vs := [.inl ((-2))]) (rest := []) dX11_round_24 ml_11_112 (by decide) rfl rfl rfl (fun d' _ => (c_gra s0g)) (fun v g3 hq => ?_)
    obtain ⟨ev, eh⟩ := hq
    subst ev
    show zPn N none d mX11_round (27, _, [.inl (((-2)))], g3) _
    refine pa_goto (pc' := 35) dX11_round_27 (by decide) ?_
    refine pa_iret dX11_round_35 rfl rfl ?_
    rfl
theorem N_roundAt11 (z : lZ A c s H J h) (hi : lInv t h) (hx0 : lX A c s H J h) : zPa d mX11_roundAt [.inr (.inr (some 0)), .inl x, .inl y] h (fun v _ => v = some (.inl (raV A s x y))) := by
  intro N
  have h1 := hi.2.2.2.2.1
  have hA := z.1.1
  have hT := z.1.2.1
  have hB := z.1.2.2
  have hI := hA.1
  have hN := z.2.1.1
  have K := hA.2.2.2.1
  have hc2 : c = 2 ∨ c = 42 := hA.2.1
  obtain ⟨b1, b2, b3, b4, b5⟩ := hI.2.2.1
  have s0 : zsh h 0 = some (11, 16) := zsh_by h1 (by decide +kernel)
  obtain ⟨sc, sc1, sc2, sc4, sc5, scw, scb⟩ := cSh hA.2.1 h1
  obtain ⟨c9, c12, c13, cw, cb⟩ := cRf_of hi.1 hA.2.1
  have S := hi.nw
  obtain ⟨⟨s86, s87, s88, s89, s90, s91⟩, r87, r88, r89, r90, r91⟩ := S.o86
  have r3 := hA.2.2.1
  have r6 := S.2.1
  obtain ⟨n1, n2, n3, n4⟩ := z.2.2.1.1
  have no : ¬ ((0 ≤ x.toInt ∧ x.toInt < (cI A : Int)) ∧ 0 ≤ y.toInt ∧ y.toInt < (cI A : Int)) → ∀ N, zPn N none d mX11_roundAt (16, [(0, .inr (.inr (some 0))), (1, .inl x), (2, .inl y)], [], h) (fun v _ => v = some (.inl (raV A s x y))) := fun q N => by
    refine pa_aload_n (pc' := 17) dX11_roundAt_16 rfl rfl ?_
    refine pa_iconst (v := nI 1) (pc' := 18) dX11_roundAt_17 (by decide) rfl ?_
    refine pa_callv (pc' := 21) (vs := [.inl (nI 1)]) (rest := []) dX11_roundAt_18 ml_11_98 (by decide) rfl rfl rfl (fun d' _ => (c_ref s0)) (fun v g hq => ?_)
    obtain ⟨ev, eh⟩ := hq
    subst ev
    show zPn N none d mX11_roundAt (21, _, [.inl ((-1))], g) _
    refine pa_iret dX11_roundAt_21 rfl rfl ?_
    unfold raV
    rw [if_neg q]
  show zPn N none d mX11_roundAt (0, [(0, .inr (.inr (some 0))), (1, .inl x), (2, .inl y)], [], h) _
  refine pa_aload_n (pc' := 1) dX11_roundAt_0 rfl rfl ?_
  refine pa_iload_n (pc' := 2) dX11_roundAt_1 rfl rfl ?_
  refine pa_callv (pc' := 5) (vs := [.inl x]) (rest := []) dX11_roundAt_2 ml_11_174 (by decide) rfl rfl rfl (fun d' _ => (N_isI11 hA h1)) (fun v g9 hq => ?_)
  obtain ⟨ev, eh⟩ := hq
  subst ev
  rw [eh]
  show zPn N none d mX11_roundAt (5, _, [.inl (if 0 ≤ (x).toInt ∧ (x).toInt < (cI A:Int) then 1 else 0)], h) _
  by_cases hx : 0 ≤ x.toInt ∧ x.toInt < (cI A : Int)
  case neg =>
    rw [if_neg hx]
    refine pa_if_t (pc' := 16) dX11_roundAt_5 (by decide) (by decide) ?_
    exact no (fun q => hx q.1) _
  rw [if_pos hx]
  refine pa_if_f (pc' := 8) dX11_roundAt_5 (by decide) (by decide) rfl ?_
  refine pa_aload_n (pc' := 9) dX11_roundAt_8 rfl rfl ?_
  refine pa_iload_n (pc' := 10) dX11_roundAt_9 rfl rfl ?_
  refine pa_callv (pc' := 13) (vs := [.inl y]) (rest := []) dX11_roundAt_10 ml_11_174 (by decide) rfl rfl rfl (fun d' _ => (N_isI11 hA h1)) (fun v g9 hq => ?_)
  obtain ⟨ev, eh⟩ := hq
  subst ev
  rw [eh]
  show zPn N none d mX11_roundAt (13, _, [.inl (if 0 ≤ (y).toInt ∧ (y).toInt < (cI A:Int) then 1 else 0)], h) _
  by_cases hy : 0 ≤ y.toInt ∧ y.toInt < (cI A : Int)
  case neg =>
    rw [if_neg hy]
    refine pa_if_f (pc' := 16) dX11_roundAt_13 (by decide) (by decide) rfl ?_
    exact no (fun q => hy q.2) _
  rw [if_pos hy]
  obtain ⟨i, rfl, hi2, ei⟩ := nI_ob hx.1 hx.2
  obtain ⟨k, rfl, hk2, ek⟩ := nI_ob hy.1 hy.2
  have V : raV A s (nI i) (nI k) = if roT A s i < 1000000 then nI (roO A s i k) else -1 := by
    unfold raV
    rw [if_pos ⟨hx, hy⟩, ei, ek]
  rw [V]
  clear no
  have B := z.bc hi (show cI A ≠ 0 by omega)
  have r9 : h.2.2.2.1 0 9 = some 96 := hi.1.2.2.1 0 9 96 (by decide +kernel)
  have r97 : h.2.2.2.1 96 1 = some 97 := hi.1.2.2.1 96 1 97 (by decide +kernel)
  have r96 := (hi.r92 hA).2.2
  have e4 := B.2.2.1.2.2.2.1.2.2.2
  refine pa_if_t (pc' := 22) dX11_roundAt_13 (by decide) (by decide) ?_
  refine pa_aload_n (pc' := 23) dX11_roundAt_22 rfl rfl ?_
  refine pa_getR (pc' := 26) (n := 16) (r := 96) dX11_roundAt_23 fl_11_67 s0 (by decide) r9 rfl ?_
  refine pa_iload_n (pc' := 27) dX11_roundAt_26 rfl rfl ?_
  refine pa_aload_n (pc' := 28) dX11_roundAt_27 rfl rfl ?_
  refine pa_getR (pc' := 31) (n := 16) (r := 86) dX11_roundAt_28 fl_11_42 s0 (by decide) r6 rfl ?_
  refine pa_getI (pc' := 34) (n := 7) (v := s.2.1) dX11_roundAt_31 fl_11_322 s86 (by decide) n2 rfl ?_
  refine pa_callv (pc' := 37) (vs := [.inl (nI i), .inl s.2.1]) (rest := []) dX11_roundAt_34 ml_11_328 (by decide) rfl rfl rfl (fun d' _ => N_findRound (d := d') B hx0.1 r96 r97 (hi.1.2.2.1 96 2 98 (by decide +kernel)) (hi.1.2.2.1 96 3 99 (by decide +kernel)) e4 hi2) (fun v g hq => ?_)
  obtain ⟨f, hq⟩ := hq
  have s0g : zsh g 0 = some (11, 16) := zsh_by (f.1.trans h1) (by decide +kernel)
  rcases hq with ⟨lt, ev, eo⟩ | ⟨lt, ev⟩
  · subst ev
    have s96 : zsh g 96 = some (3, 4) := zsh_by (f.1.trans h1) (by decide +kernel)
    have s97 : zsh g 97 = some (14, 7) := zsh_by (f.1.trans h1) (by decide +kernel)
    have q9 : g.2.2.2.1 0 9 = some 96 := by rw [f.2.1]; exact r9
    have q97 : g.2.2.2.1 96 1 = some 97 := by rw [f.2.1]; exact r97
    have eo := eo k hk2
    have eo : g.2.1 97 k = nI (roO A s i k) := eo
    have cl : roT A s i ≤ 1000000 := Nat.le_of_lt lt
    rw [if_pos (show roT A s i < 1000000 from lt)]
    show zPn N none d mX11_roundAt (37, _, [.inl (nI (roT A s i))], g) _
    refine pa_bipush (v := (-2)) (pc' := 39) dX11_roundAt_37 (by decide) rfl ?_
    refine pa_icmp_t (pc' := 49) dX11_roundAt_39 (decide_eq_true (nI_m2r (by omega))) (by decide) ?_
    refine pa_aload_n (pc' := 50) dX11_roundAt_49 rfl rfl ?_
    refine pa_aload_n (pc' := 51) dX11_roundAt_50 rfl rfl ?_
    refine pa_getR (pc' := 54) (n := 16) (r := 96) dX11_roundAt_51 fl_11_67 s0g (by decide) q9 rfl ?_
    refine pa_getR (pc' := 57) (n := 4) (r := 97) dX11_roundAt_54 fl_11_331 s96 (by decide) q97 rfl ?_
    refine pa_iload_n (pc' := 58) dX11_roundAt_57 rfl rfl ?_
    refine pa_iald (pc' := 59) dX11_roundAt_58 s97 rfl (fun _ => ?_)
    rw [nI_clamp (by omega), eo]
    refine pa_callv (pc' := 62) (vs := [.inl (nI (roO A s i k))]) (rest := []) dX11_roundAt_59 ml_11_112 (by decide) rfl rfl rfl (fun d' _ => (c_gra s0g)) (fun v g3 hq => ?_)
    obtain ⟨ev, eh⟩ := hq
    subst ev
    show zPn N none d mX11_roundAt (62, _, [.inl ((nI (roO A s i k)))], g3) _
    refine pa_iret dX11_roundAt_62 rfl rfl ?_
    rfl
  · subst ev
    rw [if_neg (show ¬ roT A s i < 1000000 from lt)]
    show zPn N none d mX11_roundAt (37, _, [.inl (-2)], g) _
    refine pa_bipush (v := (-2)) (pc' := 39) dX11_roundAt_37 (by decide) rfl ?_
    refine pa_icmp_f (pc' := 42) dX11_roundAt_39 (show zcond .ne (-2 : Int32) (-2) = false by decide) (by decide) rfl ?_
    refine pa_aload_n (pc' := 43) dX11_roundAt_42 rfl rfl ?_
    refine pa_bipush (v := nI 6) (pc' := 45) dX11_roundAt_43 (by decide) rfl ?_
    refine pa_callv (pc' := 48) (vs := [.inl (nI 6)]) (rest := []) dX11_roundAt_45 ml_11_98 (by decide) rfl rfl rfl (fun d' _ => (c_ref s0g)) (fun v g3 hq => ?_)
    obtain ⟨ev, eh⟩ := hq
    subst ev
    show zPn N none d mX11_roundAt (48, _, [.inl ((-1))], g3) _
    refine pa_iret dX11_roundAt_48 rfl rfl ?_
    rfl
/-- the reference -/
def reM (n : Nat) (M : roX) (i j : Nat) : Nat := if i = j then 0 else if i < n ∧ j < n then M i j else 1000000
def rfR (n : Nat) (M : roX) (h : zH) : Prop := ∀ i j, i < 7 → j < 7 → h.2.1 210 (7 * i + j) = nI (reM n M i j)
theorem reM_le (hM : ∀ i j, M i j ≤ 1000000) (i j : Nat) : reM n M i j ≤ 1000000 := by
  unfold reM
  have := hM i j
  split
  · omega
  · split <;> omega
theorem re_st (hM : ∀ i j, M i j ≤ 1000000) (p q : Nat) : reM n (fwF n k i j M) p q = if (p = i ∧ q = j) ∧ reM n M i k + reM n M k j < reM n M i j then reM n M i k + reM n M k j else reM n M p q := by
  have same : ¬ (p = i ∧ q = j) → reM n (fwF n k i j M) p q = reM n M p q := fun ne => by
    unfold reM fwF
    by_cases c1 : i = j ∨ i = k ∨ k = j ∨ n ≤ i ∨ n ≤ j ∨ n ≤ k
    · rw [if_pos c1]
    · rw [if_neg c1]
      by_cases c2 : M i k + M k j < M i j
      · rw [if_pos c2]
        show (if p = q then 0 else if p < n ∧ q < n then (if p = i ∧ q = j then M i k + M k j else M p q) else 1000000) = _
        rw [if_neg ne]
      · rw [if_neg c2]
  by_cases z : p = i ∧ q = j
  case neg =>
    rw [same z, if_neg (fun y => z y.1)]
  rw [z.1, z.2]
  have l1 := reM_le (n := n) hM i j
  by_cases c1 : i = j ∨ i = k ∨ k = j ∨ n ≤ i ∨ n ≤ j ∨ n ≤ k
  · rw [fwF_id c1, if_neg (fun y => ?_)]
    have y := y.2
    revert y l1
    unfold reM
    rcases c1 with e | e | e | e | e | e
    · rw [if_pos e]
      omega
    · rw [if_pos e, e]
      omega
    · rw [if_pos e, ← e]
      omega
    · by_cases e1 : i = j
      · rw [if_pos e1]
        omega
      · by_cases e2 : i = k
        · rw [if_pos e2, e2]
          omega
        · rw [if_neg e1, if_neg e2, if_neg (show ¬ (i < n ∧ j < n) by omega), if_neg (show ¬ (i < n ∧ k < n) by omega)]
          omega
    · by_cases e1 : i = j
      · rw [if_pos e1]
        omega
      · by_cases e2 : k = j
        · rw [if_pos e2, ← e2]
          omega
        · rw [if_neg e1, if_neg e2, if_neg (show ¬ (i < n ∧ j < n) by omega), if_neg (show ¬ (k < n ∧ j < n) by omega)]
          omega
    · by_cases e2 : i = k
      · rw [if_pos e2, e2]
        omega
      · rw [if_neg e2, if_neg (show ¬ (i < n ∧ k < n) by omega)]
        omega
  · have r1 : reM n M i j = M i j := by
      unfold reM
      rw [if_neg (by omega), if_pos (by omega)]
    have r2 : reM n M i k = M i k := by
      unfold reM
      rw [if_neg (by omega), if_pos (by omega)]
    have r3 : reM n M k j = M k j := by
      unfold reM
      rw [if_neg (by omega), if_pos (by omega)]
    have L : reM n (fwF n k i j M) i j = fwF n k i j M i j := by
      unfold reM
      rw [if_neg (by omega), if_pos (by omega)]
    rw [L, r1, r2, r3]
    by_cases c2 : M i k + M k j < M i j
    · have e : fwF n k i j M i j = M i k + M k j := by
        unfold fwF
        rw [if_neg c1, if_pos c2]
        exact if_pos ⟨rfl, rfl⟩
      rw [e, if_pos ⟨⟨rfl, rfl⟩, c2⟩]
    · have e : fwF n k i j M i j = M i j := by
        unfold fwF
        rw [if_neg c1, if_neg c2]
      rw [e, if_neg (fun y => c2 y.2)]
/-- the reference's way, wherever one asks -/
theorem re_in (n7 : n ≤ 7) : reM n (fun i j => M i j) i j = if i = j then 0 else if i < n ∧ j < n then M i j else 1000000 := rfl
def laR2 (n : Nat) (M : roX) (a b : Nat) (h : zH) : Prop := ∀ i j, i < 7 → j < 7 → (i < a ∨ (i = a ∧ j < b)) → h.2.1 210 (7 * i + j) = nI (reM n M i j)
def gFw (h g : zH) : Prop := g.1 = h.1 ∧ g.2.2 = h.2.2 ∧ ∀ k, g.2.1 199 k = h.2.1 199 k ∧ g.2.1 201 k = h.2.1 201 k
theorem gFw.rf : gFw h h := ⟨rfl, rfl, fun _ => ⟨rfl, rfl⟩⟩
theorem gFw.tr {g2 : zH} (p : gFw h g) (q : gFw g g2) : gFw h g2 := ⟨q.1.trans p.1, q.2.1.trans p.2.1, fun k => ⟨(q.2.2 k).1.trans (p.2.2 k).1, (q.2.2 k).2.trans (p.2.2 k).2⟩⟩
theorem gFw.st {v : Int32} (h9 : b ≠ 199) (h1 : b ≠ 201) : gFw h (zsI h b k v) := ⟨rfl, rfl, fun j => ⟨zsI_no (fun z => h9 z.1.symm), zsI_no (fun z => h1 z.1.symm)⟩⟩
theorem bgM.fw (B : bgM A s h) (f : gFw h g) : bgM A s g := by
  obtain ⟨B1, B2, B3, ⟨n1, n2, n3, n4⟩, B5, B6⟩ := B
  have e : ∀ a k, (a = 199 ∨ a = 201) → g.2.1 a k = h.2.1 a k := fun a k ha => by
    rcases ha with z | z
    · rw [z]; exact (f.2.2 k).1
    · rw [z]; exact (f.2.2 k).2
  refine ⟨B1, ?_, ?_, ⟨(e _ _ (.inr rfl)).trans n1, (e _ _ (.inr rfl)).trans n2, fun w hw => ⟨(e _ _ (.inr rfl)).trans (n3 w hw).1, (e _ _ (.inr rfl)).trans (n3 w hw).2⟩, fun b hb => ⟨(e _ _ (.inr rfl)).trans (n4 b hb).1, (e _ _ (.inr rfl)).trans (n4 b hb).2.1, fun k hk => (e _ _ (.inr rfl)).trans ((n4 b hb).2.2 k hk)⟩⟩, fun w hw j hj => (e _ _ (.inl rfl)).trans (B5 w hw j hj), fun b hb j hj => (e _ _ (.inl rfl)).trans (B6 b hb j hj)⟩
  · obtain ⟨k1, k2, k3, k4, ⟨k5, k6, k7⟩, k8⟩ := B2
    refine ⟨f.1.trans k1, k2, k3, by rw [f.2.1]; exact k4, ⟨(e _ _ (.inl rfl)).trans k5, (e _ _ (.inl rfl)).trans k6, (e _ _ (.inr rfl)).trans k7⟩, fun k hk => ?_⟩
    rw [e _ _ (.inl rfl), e _ _ (.inl rfl), e _ _ (.inl rfl), e _ _ (.inl rfl)]
    exact k8 k hk
  · obtain ⟨k1, k2, ⟨k3, k4, k5, k6⟩, k7, k8⟩ := B3
    refine ⟨f.1.trans k1, by rw [f.2.1]; exact k2, ⟨(e _ _ (.inl rfl)).trans k3, (e _ _ (.inl rfl)).trans k4, (e _ _ (.inl rfl)).trans k5, (e _ _ (.inl rfl)).trans k6⟩, k7, fun i hi => ?_⟩
    obtain ⟨a1, a2, a3⟩ := k8 i hi
    exact ⟨(e _ _ (.inl rfl)).trans a1, fun k hk => (e _ _ (.inl rfl)).trans (a2 k hk), a3⟩
theorem gF.fw (f : gF 210 h g) : gFw h g := ⟨f.1, f.2.1, fun k => ⟨f.2.2 _ _ (by decide), f.2.2 _ _ (by decide)⟩⟩
theorem M_layA (B0 : bgM A s h) (r35 : h.2.2.2.1 196 35 = some 210) {Q : Option zV → zH → Prop} (nx : ∀ (N : Nat) (ls : zL) (g : zH), gF 210 h g → rfR (cI A) (roI A s.2.1 (cW A)) g → zget ls 0 = some (.inr (.inr (some 196))) → zPn N none d mX12_layFar (107, ls, [], g) Q) : ∀ N, zPn N none d mX12_layFar (0, [(0, .inr (.inr (some 196)))], [], h) Q := by
  intro N
  obtain ⟨hI, hT, hB, hN⟩ := B0.1
  obtain ⟨b1, b2, b3, b4, b5⟩ := hI.2.2.1
  have lp : ∀ (r i N : Nat) (ls : zL) (g : zH), i + r = 7 → gF 210 h g → laR2 (cI A) (roI A s.2.1 (cW A)) i 0 g → zget ls 0 = some (.inr (.inr (some 196))) → zget ls 1 = some (.inl (nI i)) → zPn N none d mX12_layFar (2, ls, [], g) Q := by
    intro r
    induction r with
    | zero =>
      intro i N ls g hr f R hl0 hl1
      refine pa_iload_n (pc' := 3) dX12_layFar_2 hl1 rfl ?_
      refine pa_bipush (v := nI 7) (pc' := 5) dX12_layFar_3 (by decide) rfl ?_
      refine pa_icmp_t (pc' := 107) dX12_layFar_5 (zk_lt_ge (b := false) (zj_nlt (by rw [nI_toInt (by omega), nI_toInt (by omega)]; omega))) (by decide) ?_
      exact nx _ _ _ f (fun a b ha hb => R a b ha hb (by omega)) hl0
    | succ r ih =>
      intro i N ls g hr f R hl0 hl1
      refine pa_iload_n (pc' := 3) dX12_layFar_2 hl1 rfl ?_
      refine pa_bipush (v := nI 7) (pc' := 5) dX12_layFar_3 (by decide) rfl ?_
      refine pa_icmp_f (pc' := 8) dX12_layFar_5 (zk_lt_ge (b := true) (zj_lt (by rw [nI_toInt (by omega), nI_toInt (by omega)]; omega))) (by decide) rfl ?_
      refine pa_iconst (v := nI 0) (pc' := 9) dX12_layFar_8 (by decide) rfl ?_
      refine pa_istore_n (pc' := 10) dX12_layFar_9 (by decide) rfl rfl ?_
      have inn : ∀ (N j : Nat) (ls : zL) (g : zH), j ≤ 7 → gF 210 h g → laR2 (cI A) (roI A s.2.1 (cW A)) i j g → zget ls 0 = some (.inr (.inr (some 196))) → zget ls 1 = some (.inl (nI i)) → zget ls 2 = some (.inl (nI j)) → zPn N none d mX12_layFar (10, ls, [], g) Q := by
        intro N
        induction N with
        | zero => intros; exact zPn.zero
        | succ N ihN =>
          intro j ls g hj f R hl0 hl1 hl2
          have B := B0.fw f.fw
          obtain ⟨K1, K2, K3, ⟨r15, r17, -, -⟩, ⟨e4, e5, ecl⟩, kf⟩ := B.2.1
          have s196 := sh_196' K1
          have s199 : zsh g 199 = some (14, 363) := zsh_by K1 (by decide +kernel)
          have s210 : zsh g 210 = some (14, 49) := zsh_by K1 (by decide +kernel)
          have r35 : g.2.2.2.1 196 35 = some 210 := by rw [f.2.1]; exact r35
          refine pa_iload_n (pc' := 11) dX12_layFar_10 hl2 rfl ?_
          refine pa_bipush (v := nI 7) (pc' := 13) dX12_layFar_11 (by decide) rfl ?_
          refine pa_icmp (pc' := 101) (pc2 := 16) dX12_layFar_13 (by decide) rfl (fun z => ?_) (fun z => ?_)
          · have z := zi_nlt (zk_ge_lt z)
            rw [nI_toInt (by omega), nI_toInt (by omega)] at z
            refine pa_iinc (pc' := 104) (v := nI (i + 1)) dX12_layFar_101 hl1 (by decide) (nI_add i 1) rfl rfl ?_
            refine pa_gotos (pc' := 2) dX12_layFar_104 (by decide) ?_
            exact ih (i + 1) N _ g (by omega) f (fun a b ha hb hab => R a b ha hb (by omega)) (zget_s1 hl0 (by decide) (by simp [zcat])) zget_s1e
          have z := zi_lt (zk_ge_lt z)
          rw [nI_toInt (by omega), nI_toInt (by omega)] at z
          have R2 : ∀ w, w = reM (cI A) (roI A s.2.1 (cW A)) i j → laR2 (cI A) (roI A s.2.1 (cW A)) i (j + 1) (zsI g 210 (7 * i + j) (nI w)) := fun w ew a b ha hb hab => by
            rw [zsI_at]
            by_cases e : a = i ∧ b = j
            · rw [if_pos ⟨rfl, by rw [e.1, e.2]⟩, e.1, e.2, ew]
            · rw [if_neg (fun q => e (by omega))]
              exact R a b ha hb (by omega)
          have fin : ∀ (kv : Int32) (ls : zL), (¬ i = j → (∃ m, m < cW A ∧ kv = nI m ∧ reM (cI A) (roI A s.2.1 (cW A)) i j = dyA A m) ∨ (kv = -1 ∧ reM (cI A) (roI A s.2.1 (cW A)) i j = 1000000)) → zget ls 0 = some (.inr (.inr (some 196))) → zget ls 1 = some (.inl (nI i)) → zget ls 2 = some (.inl (nI j)) → zPn (N + 1) none d mX12_layFar (51, ls, [.inl kv], g) Q := fun kv ls hkv hl0 hl1 hl2 => by
            refine pa_istore_n (pc' := 52) dX12_layFar_51 (by decide) rfl rfl ?_
            refine pa_aload_n (pc' := 53) dX12_layFar_52 (zget_s1 hl0 (by decide) (by simp [zcat])) rfl ?_
            refine pa_getR (pc' := 56) (n := 39) (r := 210) dX12_layFar_53 fl_12_53 s196 (by decide) r35 rfl ?_
            refine pa_bipush (v := nI 7) (pc' := 58) dX12_layFar_56 (by decide) rfl ?_
            refine pa_iload_n (pc' := 59) dX12_layFar_58 (zget_s1 hl1 (by decide) (by simp [zcat])) rfl ?_
            refine pa_imul (pc' := 60) (v := nI (7 * i)) dX12_layFar_59 (nI_mul _ _) rfl ?_
            refine pa_iload_n (pc' := 61) dX12_layFar_60 (zget_s1 hl2 (by decide) (by simp [zcat])) rfl ?_
            refine pa_iadd (pc' := 62) (v := nI (7 * i + j)) dX12_layFar_61 (nI_add _ _) rfl ?_
            refine pa_iload_n (pc' := 63) dX12_layFar_62 (zget_s1 hl1 (by decide) (by simp [zcat])) rfl ?_
            refine pa_iload_n (pc' := 64) dX12_layFar_63 (zget_s1 hl2 (by decide) (by simp [zcat])) rfl ?_
            by_cases e : i = j
            · have er : reM (cI A) (roI A s.2.1 (cW A)) i j = 0 := if_pos e
              refine pa_icmp_f (pc' := 67) dX12_layFar_64 (decide_eq_false (not_not_intro (by rw [e]))) (by decide) rfl ?_
              refine pa_iconst (v := nI 0) (pc' := 68) dX12_layFar_67 (by decide) rfl ?_
              refine pa_goto (pc' := 94) dX12_layFar_68 (by decide) ?_
              refine pa_iast (pc' := 95) dX12_layFar_94 s210 rfl (fun _ => ?_)
              rw [nI_clamp (by omega)]
              refine pa_iinc (pc' := 98) (v := nI (j + 1)) dX12_layFar_95 (zget_s1 hl2 (by decide) (by simp [zcat])) (by decide) (nI_add j 1) rfl rfl ?_
              refine pa_gotos (pc' := 10) dX12_layFar_98 (by decide) ?_
              exact ihN (j + 1) _ _ (by omega) (f.tr gF.st) (R2 0 er.symm) (zget_s1 (zget_s1 hl0 (by decide) (by simp [zcat])) (by decide) (by simp [zcat])) (zget_s1 (zget_s1 hl1 (by decide) (by simp [zcat])) (by decide) (by simp [zcat])) zget_s1e
            refine pa_icmp_t (pc' := 71) dX12_layFar_64 (decide_eq_true (fun q => e ((nI_eq (by omega) (by omega)).mp q))) (by decide) ?_
            refine pa_iload_n (pc' := 72) dX12_layFar_71 zget_s1e rfl ?_
            rcases hkv e with ⟨m, hm, ek, er⟩ | ⟨ek, er⟩
            · subst ek
              obtain ⟨-, -, v3, -⟩ := kf m hm
              refine pa_if_t (pc' := 81) dX12_layFar_72 (zk_lt_ge (b := false) (zlR (by omega))) (by decide) ?_
              refine pa_aload_n (pc' := 82) dX12_layFar_81 (zget_s1 hl0 (by decide) (by simp [zcat])) rfl ?_
              refine pa_getR (pc' := 85) (n := 39) (r := 199) dX12_layFar_82 fl_12_20 s196 (by decide) r15 rfl ?_
              refine pa_bipush (v := nI 59) (pc' := 87) dX12_layFar_85 (by decide) rfl ?_
              refine pa_iconst (v := nI 4) (pc' := 88) dX12_layFar_87 (by decide) rfl ?_
              refine pa_iload_n (pc' := 89) dX12_layFar_88 zget_s1e rfl ?_
              refine pa_imul (pc' := 90) (v := nI (4 * m)) dX12_layFar_89 (nI_mul _ _) rfl ?_
              refine pa_iadd (pc' := 91) (v := nI (59 + 4 * m)) dX12_layFar_90 (nI_add _ _) rfl ?_
              refine pa_iconst (v := nI 2) (pc' := 92) dX12_layFar_91 (by decide) rfl ?_
              refine pa_iadd (pc' := 93) (v := nI (59 + 4 * m + 2)) dX12_layFar_92 (nI_add _ _) rfl ?_
              refine pa_iald (pc' := 94) dX12_layFar_93 s199 rfl (fun _ => ?_)
              rw [nI_clamp (by omega), v3]
              refine pa_iast (pc' := 95) dX12_layFar_94 s210 rfl (fun _ => ?_)
              rw [nI_clamp (by omega)]
              refine pa_iinc (pc' := 98) (v := nI (j + 1)) dX12_layFar_95 (zget_s1 hl2 (by decide) (by simp [zcat])) (by decide) (nI_add j 1) rfl rfl ?_
              refine pa_gotos (pc' := 10) dX12_layFar_98 (by decide) ?_
              exact ihN (j + 1) _ _ (by omega) (f.tr gF.st) (R2 _ er.symm) (zget_s1 (zget_s1 hl0 (by decide) (by simp [zcat])) (by decide) (by simp [zcat])) (zget_s1 (zget_s1 hl1 (by decide) (by simp [zcat])) (by decide) (by simp [zcat])) zget_s1e
            · subst ek
              refine pa_if_f (pc' := 75) dX12_layFar_72 (show zcond .ge (-1 : Int32) 0 = false by decide) (by decide) rfl ?_
              refine pa_ldcw (pc' := 78) dX12_layFar_75 cl_12_341 rfl rfl ?_
              refine pa_goto (pc' := 94) dX12_layFar_78 (by decide) ?_
              refine pa_iast (pc' := 95) dX12_layFar_94 s210 rfl (fun _ => ?_)
              rw [nI_clamp (by omega)]
              refine pa_iinc (pc' := 98) (v := nI (j + 1)) dX12_layFar_95 (zget_s1 hl2 (by decide) (by simp [zcat])) (by decide) (nI_add j 1) rfl rfl ?_
              refine pa_gotos (pc' := 10) dX12_layFar_98 (by decide) ?_
              exact ihN (j + 1) _ _ (by omega) (f.tr gF.st) (R2 1000000 er.symm) (zget_s1 (zget_s1 hl0 (by decide) (by simp [zcat])) (by decide) (by simp [zcat])) (zget_s1 (zget_s1 hl1 (by decide) (by simp [zcat])) (by decide) (by simp [zcat])) zget_s1e
          have out : ¬ (i < cI A ∧ j < cI A) → ¬ i = j → (∃ m, m < cW A ∧ (-1 : Int32) = nI m ∧ reM (cI A) (roI A s.2.1 (cW A)) i j = dyA A m) ∨ ((-1 : Int32) = -1 ∧ reM (cI A) (roI A s.2.1 (cW A)) i j = 1000000) := fun q e => .inr ⟨rfl, by
            unfold reM
            rw [if_neg e, if_neg q]⟩
          refine pa_iload_n (pc' := 17) dX12_layFar_16 hl1 rfl ?_
          refine pa_aload_n (pc' := 18) dX12_layFar_17 hl0 rfl ?_
          refine pa_getR (pc' := 21) (n := 39) (r := 199) dX12_layFar_18 fl_12_20 s196 (by decide) r15 rfl ?_
          refine pa_iconst (v := nI 4) (pc' := 22) dX12_layFar_21 (by decide) rfl ?_
          refine pa_iald (pc' := 23) dX12_layFar_22 s199 rfl (fun _ => ?_)
          rw [nI_clamp (by omega), e4]
          refine pa_icmp (pc' := 50) (pc2 := 26) dX12_layFar_23 (by decide) rfl (fun z1 => ?_) (fun z1 => ?_)
          · have z1 := zi_nlt (zk_ge_lt z1)
            rw [nI_toInt (by omega), nI_toInt (by omega)] at z1
            refine pa_iconst (v := (-1)) (pc' := 51) dX12_layFar_50 (by decide) rfl ?_
            exact fin (-1) _ (out (by omega)) hl0 hl1 hl2
          have z1 := zi_lt (zk_ge_lt z1)
          rw [nI_toInt (by omega), nI_toInt (by omega)] at z1
          refine pa_iload_n (pc' := 27) dX12_layFar_26 hl2 rfl ?_
          refine pa_aload_n (pc' := 28) dX12_layFar_27 hl0 rfl ?_
          refine pa_getR (pc' := 31) (n := 39) (r := 199) dX12_layFar_28 fl_12_20 s196 (by decide) r15 rfl ?_
          refine pa_iconst (v := nI 4) (pc' := 32) dX12_layFar_31 (by decide) rfl ?_
          refine pa_iald (pc' := 33) dX12_layFar_32 s199 rfl (fun _ => ?_)
          rw [nI_clamp (by omega), e4]
          refine pa_icmp (pc' := 50) (pc2 := 36) dX12_layFar_33 (by decide) rfl (fun z2 => ?_) (fun z2 => ?_)
          · have z2 := zi_nlt (zk_ge_lt z2)
            rw [nI_toInt (by omega), nI_toInt (by omega)] at z2
            refine pa_iconst (v := (-1)) (pc' := 51) dX12_layFar_50 (by decide) rfl ?_
            exact fin (-1) _ (out (by omega)) hl0 hl1 hl2
          have z2 := zi_lt (zk_ge_lt z2)
          rw [nI_toInt (by omega), nI_toInt (by omega)] at z2
          refine pa_iload_n (pc' := 37) dX12_layFar_36 hl1 rfl ?_
          refine pa_iload_n (pc' := 38) dX12_layFar_37 hl2 rfl ?_
          by_cases e : i = j
          · refine pa_icmp_t (pc' := 50) dX12_layFar_38 (decide_eq_true (by rw [e])) (by decide) ?_
            refine pa_iconst (v := (-1)) (pc' := 51) dX12_layFar_50 (by decide) rfl ?_
            exact fin (-1) _ (fun q => absurd e q) hl0 hl1 hl2
          refine pa_icmp_f (pc' := 41) dX12_layFar_38 (decide_eq_false (fun q => e ((nI_eq (by omega) (by omega)).mp q))) (by decide) rfl ?_
          refine pa_aload_n (pc' := 42) dX12_layFar_41 hl0 rfl ?_
          refine pa_iload_n (pc' := 43) dX12_layFar_42 hl1 rfl ?_
          refine pa_iload_n (pc' := 44) dX12_layFar_43 hl2 rfl ?_
          refine pa_callv (pc' := 47) (vs := [.inl (nI i), .inl (nI j)]) (rest := []) dX12_layFar_44 ml_12_305 (by decide) rfl rfl rfl (fun d' _ => (M_wayOf B (show i < 7 by omega) (show j < 7 by omega))) (fun v g9 hq => ?_)
          obtain ⟨ev, eh⟩ := hq
          subst ev
          rw [eh]
          show zPn (N + 1) none d mX12_layFar (47, _, [.inl (wvM (fsF (joF A s.2.1 i j) (cW A)))], g) _
          refine pa_goto (pc' := 51) dX12_layFar_47 (by decide) ?_
          refine fin _ _ (fun _ => ?_) hl0 hl1 hl2
          have er : reM (cI A) (roI A s.2.1 (cW A)) i j = dyO A (fsF (joF A s.2.1 i j) (cW A)) := by
            unfold reM
            rw [if_neg e, if_pos (by omega)]
            rfl
          rw [er]
          cases o : fsF (joF A s.2.1 i j) (cW A) with
          | none => exact .inr ⟨rfl, rfl⟩
          | some m => exact .inl ⟨m, (fsF_in _ o).1, rfl, rfl⟩
      exact inn _ 0 _ g (by decide) f R (zget_s1 hl0 (by decide) (by simp [zcat])) (zget_s1 hl1 (by decide) (by simp [zcat])) zget_s1e
  refine pa_iconst (v := nI 0) (pc' := 1) dX12_layFar_0 (by decide) rfl ?_
  refine pa_istore_n (pc' := 2) dX12_layFar_1 (by decide) rfl rfl ?_
  exact lp 7 0 _ _ h rfl gF.rf (fun a b _ _ hab => by omega) rfl rfl
theorem M_layB (h1 : h.1 = hh_487.1) (r35 : h.2.2.2.1 196 35 = some 210) {M0 : roX} (hM0 : ∀ i j, M0 i j ≤ 1000000) (n7 : n ≤ 7) : ∀ (r k N : Nat) (ls : zL) (g : zH), k + r = 7 → gF 210 h g → rfR n (fwK n M0 k) g → zget ls 0 = some (.inr (.inr (some 196))) → zget ls 1 = some (.inl (nI k)) → zPn N none d mX12_layFar (109, ls, [], g) (fun v g => v = none ∧ gF 210 h g ∧ rfR n (fwK n M0 n) g) := by
  have FC : ∀ {g : zH}, gF 210 h g → zsh g 196 = some (12, 39) ∧ zsh g 210 = some (14, 49) ∧ g.2.2.2.1 196 35 = some 210 := fun f => ⟨zsh_by (f.1.trans h1) (by decide +kernel), zsh_by (f.1.trans h1) (by decide +kernel), by rw [f.2.1]; exact r35⟩
  intro r
  induction r with
  | zero =>
    intro k N ls g hr f R hl0 hl1
    have ek : k = 7 := by omega
    rw [ek, fwK_st 7 n7] at R
    refine pa_iload_n (pc' := 110) dX12_layFar_109 hl1 rfl ?_
    refine pa_bipush (v := nI 7) (pc' := 112) dX12_layFar_110 (by decide) rfl ?_
    refine pa_icmp_t (pc' := 220) dX12_layFar_112 (zk_lt_ge (b := false) (zj_nlt (by rw [nI_toInt (by omega), nI_toInt (by omega)]; omega))) (by decide) ?_
    refine pa_vret dX12_layFar_220 rfl ?_
    exact ⟨rfl, f, R⟩
  | succ r ih =>
    intro k N ls g hr f R hl0 hl1
    refine pa_iload_n (pc' := 110) dX12_layFar_109 hl1 rfl ?_
    refine pa_bipush (v := nI 7) (pc' := 112) dX12_layFar_110 (by decide) rfl ?_
    refine pa_icmp_f (pc' := 115) dX12_layFar_112 (zk_lt_ge (b := true) (zj_lt (by rw [nI_toInt (by omega), nI_toInt (by omega)]; omega))) (by decide) rfl ?_
    refine pa_iconst (v := nI 0) (pc' := 116) dX12_layFar_115 (by decide) rfl ?_
    refine pa_istore_n (pc' := 117) dX12_layFar_116 (by decide) rfl rfl ?_
    have mid : ∀ (q i N : Nat) (ls : zL) (g : zH), i + q = 7 → gF 210 h g → rfR n (fwI n k (fwK n M0 k) i) g → zget ls 0 = some (.inr (.inr (some 196))) → zget ls 1 = some (.inl (nI k)) → zget ls 2 = some (.inl (nI i)) → zPn N none d mX12_layFar (117, ls, [], g) (fun v g => v = none ∧ gF 210 h g ∧ rfR n (fwK n M0 n) g) := by
      intro q
      induction q with
      | zero =>
        intro i N ls g hq f R hl0 hl1 hl2
        have ei : i = 7 := by omega
        rw [ei, fwI_st 7 n7] at R
        refine pa_iload_n (pc' := 118) dX12_layFar_117 hl2 rfl ?_
        refine pa_bipush (v := nI 7) (pc' := 120) dX12_layFar_118 (by decide) rfl ?_
        refine pa_icmp_t (pc' := 214) dX12_layFar_120 (zk_lt_ge (b := false) (zj_nlt (by rw [nI_toInt (by omega), nI_toInt (by omega)]; omega))) (by decide) ?_
        cases N with
        | zero => exact zPn.zero
        | succ N =>
          refine pa_iinc (pc' := 217) (v := nI (k + 1)) dX12_layFar_214 hl1 (by decide) (nI_add k 1) rfl rfl ?_
          refine pa_gotos (pc' := 109) dX12_layFar_217 (by decide) ?_
          exact ih (k + 1) N _ g (by omega) f R (zget_s1 hl0 (by decide) (by simp [zcat])) zget_s1e
      | succ q ihq =>
        intro i N ls g hq f R hl0 hl1 hl2
        refine pa_iload_n (pc' := 118) dX12_layFar_117 hl2 rfl ?_
        refine pa_bipush (v := nI 7) (pc' := 120) dX12_layFar_118 (by decide) rfl ?_
        refine pa_icmp_f (pc' := 123) dX12_layFar_120 (zk_lt_ge (b := true) (zj_lt (by rw [nI_toInt (by omega), nI_toInt (by omega)]; omega))) (by decide) rfl ?_
        refine pa_iconst (v := nI 0) (pc' := 124) dX12_layFar_123 (by decide) rfl ?_
        refine pa_istore_n (pc' := 125) dX12_layFar_124 (by decide) rfl rfl ?_
        have inn : ∀ (N j : Nat) (ls : zL) (g : zH), j ≤ 7 → gF 210 h g → rfR n (fwJ n k i (fwI n k (fwK n M0 k) i) j) g → zget ls 0 = some (.inr (.inr (some 196))) → zget ls 1 = some (.inl (nI k)) → zget ls 2 = some (.inl (nI i)) → zget ls 3 = some (.inl (nI j)) → zPn N none d mX12_layFar (125, ls, [], g) (fun v g => v = none ∧ gF 210 h g ∧ rfR n (fwK n M0 n) g) := by
          intro N
          induction N with
          | zero => intros; exact zPn.zero
          | succ N ihN =>
            intro j ls g hj f R hl0 hl1 hl2 hl3
            obtain ⟨s196, s210, r35⟩ := FC f
            refine pa_iload_n (pc' := 126) dX12_layFar_125 hl3 rfl ?_
            refine pa_bipush (v := nI 7) (pc' := 128) dX12_layFar_126 (by decide) rfl ?_
            refine pa_icmp (pc' := 208) (pc2 := 131) dX12_layFar_128 (by decide) rfl (fun z => ?_) (fun z => ?_)
            · have z := zi_nlt (zk_ge_lt z)
              rw [nI_toInt (by omega), nI_toInt (by omega)] at z
              have ej : j = 7 := by omega
              rw [ej, fwJ_st 7 n7] at R
              refine pa_iinc (pc' := 211) (v := nI (i + 1)) dX12_layFar_208 hl2 (by decide) (nI_add i 1) rfl rfl ?_
              refine pa_gotos (pc' := 117) dX12_layFar_211 (by decide) ?_
              exact ihq (i + 1) N _ g (by omega) f R (zget_s1 hl0 (by decide) (by simp [zcat])) (zget_s1 hl1 (by decide) (by simp [zcat])) zget_s1e
            have z := zi_lt (zk_ge_lt z)
            rw [nI_toInt (by omega), nI_toInt (by omega)] at z
            have Ml : ∀ a b, fwJ n k i (fwI n k (fwK n M0 k) i) j a b ≤ 1000000 := fun a b => fwJ_le (fun a b => fwI_le (fun a b => fwK_le hM0 _ a b) _ a b) _ a b
            have step : ∀ a b, reM n (fwJ n k i (fwI n k (fwK n M0 k) i) (j + 1)) a b = if (a = i ∧ b = j) ∧ reM n (fwJ n k i (fwI n k (fwK n M0 k) i) j) i k + reM n (fwJ n k i (fwI n k (fwK n M0 k) i) j) k j < reM n (fwJ n k i (fwI n k (fwK n M0 k) i) j) i j then reM n (fwJ n k i (fwI n k (fwK n M0 k) i) j) i k + reM n (fwJ n k i (fwI n k (fwK n M0 k) i) j) k j else reM n (fwJ n k i (fwI n k (fwK n M0 k) i) j) a b := fun a b => re_st Ml a b
            have e1 := R i k (by omega) (by omega)
            have e2 := R k j (by omega) (by omega)
            have e3 := R i j (by omega) (by omega)
            have l1 := reM_le (n := n) Ml i k
            have l2 := reM_le (n := n) Ml k j
            have l3 := reM_le (n := n) Ml i j
            generalize hA1 : reM n (fwJ n k i (fwI n k (fwK n M0 k) i) j) i k = va at step e1 l1
            generalize hA2 : reM n (fwJ n k i (fwI n k (fwK n M0 k) i) j) k j = vb at step e2 l2
            generalize hA3 : reM n (fwJ n k i (fwI n k (fwK n M0 k) i) j) i j = vc at step e3 l3
            refine pa_aload_n (pc' := 132) dX12_layFar_131 hl0 rfl ?_
            refine pa_getR (pc' := 135) (n := 39) (r := 210) dX12_layFar_132 fl_12_53 s196 (by decide) r35 rfl ?_
            refine pa_bipush (v := nI 7) (pc' := 137) dX12_layFar_135 (by decide) rfl ?_
            refine pa_iload_n (pc' := 138) dX12_layFar_137 hl2 rfl ?_
            refine pa_imul (pc' := 139) (v := nI (7 * i)) dX12_layFar_138 (nI_mul _ _) rfl ?_
            refine pa_iload_n (pc' := 140) dX12_layFar_139 hl1 rfl ?_
            refine pa_iadd (pc' := 141) (v := nI (7 * i + k)) dX12_layFar_140 (nI_add _ _) rfl ?_
            refine pa_iald (pc' := 142) dX12_layFar_141 s210 rfl (fun _ => ?_)
            rw [nI_clamp (by omega), e1]
            refine pa_aload_n (pc' := 143) dX12_layFar_142 hl0 rfl ?_
            refine pa_getR (pc' := 146) (n := 39) (r := 210) dX12_layFar_143 fl_12_53 s196 (by decide) r35 rfl ?_
            refine pa_bipush (v := nI 7) (pc' := 148) dX12_layFar_146 (by decide) rfl ?_
            refine pa_iload_n (pc' := 149) dX12_layFar_148 hl1 rfl ?_
            refine pa_imul (pc' := 150) (v := nI (7 * k)) dX12_layFar_149 (nI_mul _ _) rfl ?_
            refine pa_iload_n (pc' := 151) dX12_layFar_150 hl3 rfl ?_
            refine pa_iadd (pc' := 152) (v := nI (7 * k + j)) dX12_layFar_151 (nI_add _ _) rfl ?_
            refine pa_iald (pc' := 153) dX12_layFar_152 s210 rfl (fun _ => ?_)
            rw [nI_clamp (by omega), e2]
            refine pa_iadd (pc' := 154) (v := nI (va + vb)) dX12_layFar_153 (nI_add _ _) rfl ?_
            refine pa_aload_n (pc' := 155) dX12_layFar_154 hl0 rfl ?_
            refine pa_getR (pc' := 158) (n := 39) (r := 210) dX12_layFar_155 fl_12_53 s196 (by decide) r35 rfl ?_
            refine pa_bipush (v := nI 7) (pc' := 160) dX12_layFar_158 (by decide) rfl ?_
            refine pa_iload_n (pc' := 161) dX12_layFar_160 hl2 rfl ?_
            refine pa_imul (pc' := 162) (v := nI (7 * i)) dX12_layFar_161 (nI_mul _ _) rfl ?_
            refine pa_iload_n (pc' := 163) dX12_layFar_162 hl3 rfl ?_
            refine pa_iadd (pc' := 164) (v := nI (7 * i + j)) dX12_layFar_163 (nI_add _ _) rfl ?_
            refine pa_iald (pc' := 165) dX12_layFar_164 s210 rfl (fun _ => ?_)
            rw [nI_clamp (by omega), e3]
            by_cases y : va + vb < vc
            · refine pa_icmp_f (pc' := 168) dX12_layFar_165 (zk_lt_ge (b := true) (zj_lt (by rw [nI_toInt (by omega), nI_toInt (by omega)]; omega))) (by decide) rfl ?_
              refine pa_aload_n (pc' := 169) dX12_layFar_168 hl0 rfl ?_
              refine pa_getR (pc' := 172) (n := 39) (r := 210) dX12_layFar_169 fl_12_53 s196 (by decide) r35 rfl ?_
              refine pa_bipush (v := nI 7) (pc' := 174) dX12_layFar_172 (by decide) rfl ?_
              refine pa_iload_n (pc' := 175) dX12_layFar_174 hl2 rfl ?_
              refine pa_imul (pc' := 176) (v := nI (7 * i)) dX12_layFar_175 (nI_mul _ _) rfl ?_
              refine pa_iload_n (pc' := 177) dX12_layFar_176 hl3 rfl ?_
              refine pa_iadd (pc' := 178) (v := nI (7 * i + j)) dX12_layFar_177 (nI_add _ _) rfl ?_
              refine pa_aload_n (pc' := 179) dX12_layFar_178 hl0 rfl ?_
              refine pa_getR (pc' := 182) (n := 39) (r := 210) dX12_layFar_179 fl_12_53 s196 (by decide) r35 rfl ?_
              refine pa_bipush (v := nI 7) (pc' := 184) dX12_layFar_182 (by decide) rfl ?_
              refine pa_iload_n (pc' := 185) dX12_layFar_184 hl2 rfl ?_
              refine pa_imul (pc' := 186) (v := nI (7 * i)) dX12_layFar_185 (nI_mul _ _) rfl ?_
              refine pa_iload_n (pc' := 187) dX12_layFar_186 hl1 rfl ?_
              refine pa_iadd (pc' := 188) (v := nI (7 * i + k)) dX12_layFar_187 (nI_add _ _) rfl ?_
              refine pa_iald (pc' := 189) dX12_layFar_188 s210 rfl (fun _ => ?_)
              rw [nI_clamp (by omega), e1]
              refine pa_aload_n (pc' := 190) dX12_layFar_189 hl0 rfl ?_
              refine pa_getR (pc' := 193) (n := 39) (r := 210) dX12_layFar_190 fl_12_53 s196 (by decide) r35 rfl ?_
              refine pa_bipush (v := nI 7) (pc' := 195) dX12_layFar_193 (by decide) rfl ?_
              refine pa_iload_n (pc' := 196) dX12_layFar_195 hl1 rfl ?_
              refine pa_imul (pc' := 197) (v := nI (7 * k)) dX12_layFar_196 (nI_mul _ _) rfl ?_
              refine pa_iload_n (pc' := 198) dX12_layFar_197 hl3 rfl ?_
              refine pa_iadd (pc' := 199) (v := nI (7 * k + j)) dX12_layFar_198 (nI_add _ _) rfl ?_
              refine pa_iald (pc' := 200) dX12_layFar_199 s210 rfl (fun _ => ?_)
              rw [nI_clamp (by omega), e2]
              refine pa_iadd (pc' := 201) (v := nI (va + vb)) dX12_layFar_200 (nI_add _ _) rfl ?_
              refine pa_iast (pc' := 202) dX12_layFar_201 s210 rfl (fun _ => ?_)
              rw [nI_clamp (by omega)]
              refine pa_iinc (pc' := 205) (v := nI (j + 1)) dX12_layFar_202 hl3 (by decide) (nI_add j 1) rfl rfl ?_
              refine pa_gotos (pc' := 125) dX12_layFar_205 (by decide) ?_
              refine ihN (j + 1) _ _ (by omega) (f.tr gF.st) (fun a b ha hb => ?_) (zget_s1 hl0 (by decide) (by simp [zcat])) (zget_s1 hl1 (by decide) (by simp [zcat])) (zget_s1 hl2 (by decide) (by simp [zcat])) zget_s1e
              rw [zsI_at, step]
              by_cases e : a = i ∧ b = j
              · rw [if_pos ⟨rfl, by rw [e.1, e.2]⟩, if_pos ⟨e, y⟩]
              · rw [if_neg (fun q => e (by omega)), if_neg (fun q => e q.1)]
                exact R a b ha hb
            · refine pa_icmp_t (pc' := 202) dX12_layFar_165 (zk_lt_ge (b := false) (zj_nlt (by rw [nI_toInt (by omega), nI_toInt (by omega)]; omega))) (by decide) ?_
              refine pa_iinc (pc' := 205) (v := nI (j + 1)) dX12_layFar_202 hl3 (by decide) (nI_add j 1) rfl rfl ?_
              refine pa_gotos (pc' := 125) dX12_layFar_205 (by decide) ?_
              refine ihN (j + 1) _ _ (by omega) f (fun a b ha hb => ?_) (zget_s1 hl0 (by decide) (by simp [zcat])) (zget_s1 hl1 (by decide) (by simp [zcat])) (zget_s1 hl2 (by decide) (by simp [zcat])) zget_s1e
              rw [step, if_neg (fun q => y q.2)]
              exact R a b ha hb
        exact inn _ 0 _ g (by decide) f R (zget_s1 hl0 (by decide) (by simp [zcat])) (zget_s1 hl1 (by decide) (by simp [zcat])) (zget_s1 hl2 (by decide) (by simp [zcat])) zget_s1e
    exact mid 7 0 _ _ g rfl f R (zget_s1 hl0 (by decide) (by simp [zcat])) (zget_s1 hl1 (by decide) (by simp [zcat])) zget_s1e
theorem M_layFar (B0 : bgM A s h) (r35 : h.2.2.2.1 196 35 = some 210) : zPa d mX12_layFar [.inr (.inr (some 196))] h (fun v g => v = none ∧ gF 210 h g ∧ rfR (cI A) (roM A s.2.1) g) := by
  refine M_layA B0 r35 (fun N ls g f R hl0 => ?_)
  have n7 := B0.1.1.2.2.1.1
  refine pa_iconst (v := nI 0) (pc' := 108) dX12_layFar_107 (by decide) rfl ?_
  refine pa_istore_n (pc' := 109) dX12_layFar_108 (by decide) rfl rfl ?_
  exact M_layB B0.2.1.1 r35 (roI_le B0.1.1 B0.1.2.2.1 B0.1.2.1) n7 7 0 _ _ g rfl f R (zget_s1 hl0 (by decide) (by simp [zcat])) zget_s1e
abbrev roQ : Type := Nat × (Nat → Nat)
def upR (T : Nat → Nat) (b v k : Nat) : Nat := if k = b then v else T k
def rsR (n : Nat) (M : roX) (r u l b m : Nat) (q : roQ) (T : Nat → Nat) : roQ := if m + cvF n M r u l < q.1 then (m + cvF n M r u l, fun p => if p < b then T p else oaF n M r u l p) else q
def lpR (n : Nat) (M : roX) (r u l b m : Nat) (T : Nat → Nat) (q : roQ) : Nat → roQ
  | 0 => q
  | i + 1 => if u.testBit i = true then lpR n M r u l b m T q i else rsR n M r (u ||| 2 ^ i) i (b + 1) (m + M l i) (lpR n M r u l b m T q i) (upR T b i)
def fbR (M : roX) (f : Nat → Nat → Nat) (u l : Nat) : Nat → Option (Nat × Nat)
  | 0 => none
  | i + 1 => if u.testBit i = true then fbR M f u l i else match fbR M f u l i with
    | none => some (i, M l i + f (u ||| 2 ^ i) i)
    | some p => if M l i + f (u ||| 2 ^ i) i < p.2 then some (i, M l i + f (u ||| 2 ^ i) i) else some p
def stR (n : Nat) (q : roQ) (h : zH) : Prop := h.2.1 196 38 = nI q.1 ∧ q.1 ≤ 1000000 ∧ (q.1 < 1000000 → ∀ p, p < n → h.2.1 212 p = nI (q.2 p))
def trR (b : Nat) (T : Nat → Nat) (h : zH) : Prop := ∀ p, p < b → h.2.1 211 p = nI (T p)
def rtM (n : Nat) (M : roX) (h : zH) : Prop := h.1 = hh_487.1 ∧ (h.2.2.2.1 196 15 = some 199 ∧ h.2.2.2.1 196 35 = some 210 ∧ h.2.2.2.1 196 36 = some 211 ∧ h.2.2.2.1 196 37 = some 212) ∧ h.2.1 199 4 = nI n ∧ n ≤ 7 ∧ (∀ i j, M i j ≤ 1000000) ∧ rfR n M h
def rFr (h g : zH) : Prop := g.1 = h.1 ∧ g.2.2 = h.2.2 ∧ ∀ b k, b ≠ 211 → b ≠ 212 → ¬ (b = 196 ∧ k = 38) → g.2.1 b k = h.2.1 b k
section RTR
variable {Q : roQ} {T : Nat → Nat}
theorem fbR_b (e : u.testBit i = true) : fbR M f u l (i + 1) = fbR M f u l i := if_pos e
theorem fbR_f (e : ¬ u.testBit i = true) (e2 : fbR M f u l i = none) : fbR M f u l (i + 1) = some (i, M l i + f (u ||| 2 ^ i) i) := by
  show (if u.testBit i = true then fbR M f u l i else match fbR M f u l i with | none => some (i, M l i + f (u ||| 2 ^ i) i) | some p => if M l i + f (u ||| 2 ^ i) i < p.2 then some (i, M l i + f (u ||| 2 ^ i) i) else some p) = _
  rw [if_neg e, e2]
theorem fbR_s {z : Nat × Nat} (e : ¬ u.testBit i = true) (e2 : fbR M f u l i = some z) : fbR M f u l (i + 1) = if M l i + f (u ||| 2 ^ i) i < z.2 then some (i, M l i + f (u ||| 2 ^ i) i) else some z := by
  show (if u.testBit i = true then fbR M f u l i else match fbR M f u l i with | none => some (i, M l i + f (u ||| 2 ^ i) i) | some p => if M l i + f (u ||| 2 ^ i) i < p.2 then some (i, M l i + f (u ||| 2 ^ i) i) else some p) = _
  rw [if_neg e, e2]
theorem fbR_no : ∀ m, fbR M f u l m = none → ∀ k, k < m → u.testBit k = true
  | 0, _, k, hk => absurd hk (Nat.not_lt_zero k)
  | m + 1, e, k, hk => by
    by_cases z : u.testBit m = true
    · rw [fbR_b z] at e
      by_cases ek : k = m
      · rw [ek]
        exact z
      · exact fbR_no m e k (by omega)
    · cases o : fbR M f u l m with
      | none => rw [fbR_f z o] at e; cases e
      | some p =>
        rw [fbR_s z o] at e
        by_cases y : M l m + f (u ||| 2 ^ m) m < p.2
        · rw [if_pos y] at e; cases e
        · rw [if_neg y] at e; cases e
theorem fbR_in : ∀ m z, fbR M f u l m = some z → z.1 < m ∧ u.testBit z.1 = false ∧ z.2 = M l z.1 + f (u ||| 2 ^ z.1) z.1 ∧ (∀ k, k < m → u.testBit k = false → z.2 ≤ M l k + f (u ||| 2 ^ k) k) ∧ ∀ k, k < z.1 → u.testBit k = false → z.2 < M l k + f (u ||| 2 ^ k) k
  | 0, _, e => nomatch e
  | m + 1, z, e => by
    by_cases zb : u.testBit m = true
    · rw [fbR_b zb] at e
      obtain ⟨i1, i2, i3, i4, i5⟩ := fbR_in m z e
      refine ⟨by omega, i2, i3, fun k hk hb => ?_, i5⟩
      by_cases ek : k = m
      · rw [ek, zb] at hb
        cases hb
      · exact i4 k (by omega) hb
    · have zb2 := Bool.eq_false_iff.mpr zb
      cases o : fbR M f u l m with
      | none =>
        have no := fbR_no m o
        rw [fbR_f zb o] at e
        cases e
        refine ⟨Nat.lt_succ_self m, zb2, rfl, fun k hk hb => ?_, fun k hk hb => ?_⟩
        · by_cases ek : k = m
          · rw [ek]
            exact Nat.le_refl _
          · rw [no k (by omega)] at hb
            cases hb
        · rw [no k hk] at hb
          cases hb
      | some y =>
        obtain ⟨i1, i2, i3, i4, i5⟩ := fbR_in m y o
        rw [fbR_s zb o] at e
        by_cases c : M l m + f (u ||| 2 ^ m) m < y.2
        · rw [if_pos c] at e
          cases e
          refine ⟨Nat.lt_succ_self m, zb2, rfl, fun k hk hb => ?_, fun k hk hb => ?_⟩
          · by_cases ek : k = m
            · rw [ek]
              exact Nat.le_refl _
            · have := i4 k (by omega) hb
              show M l m + f (u ||| 2 ^ m) m ≤ _
              omega
          · have := i4 k hk hb
            show M l m + f (u ||| 2 ^ m) m < _
            omega
        · rw [if_neg c] at e
          cases e
          refine ⟨by omega, i2, i3, fun k hk hb => ?_, i5⟩
          by_cases ek : k = m
          · rw [ek]
            omega
          · exact i4 k (by omega) hb
theorem lpR_b (e : u.testBit i = true) : lpR n M r u l b m T Q (i + 1) = lpR n M r u l b m T Q i := if_pos e
theorem lpR_n (e : ¬ u.testBit i = true) : lpR n M r u l b m T Q (i + 1) = rsR n M r (u ||| 2 ^ i) i (b + 1) (m + M l i) (lpR n M r u l b m T Q i) (upR T b i) := if_neg e
theorem lpR_fb : ∀ k, lpR n M r u l b m T Q k = match fbR M (cvF n M r) u l k with
    | none => Q
    | some z => if m + z.2 < Q.1 then (m + z.2, fun p => if p < b + 1 then upR T b z.1 p else oaF n M r (u ||| 2 ^ z.1) z.1 p) else Q
  | 0 => rfl
  | k + 1 => by
    have ih := lpR_fb k
    by_cases zb : u.testBit k = true
    · rw [lpR_b zb, fbR_b zb]
      exact ih
    · rw [lpR_n zb]
      unfold rsR
      rw [show m + M l k + cvF n M r (u ||| 2 ^ k) k = m + (M l k + cvF n M r (u ||| 2 ^ k) k) by omega]
      cases o : fbR M (cvF n M r) u l k with
      | none =>
        rw [o] at ih
        have ih : lpR n M r u l b m T Q k = Q := ih
        rw [ih, fbR_f zb o]
      | some z =>
        rw [o] at ih
        have ih : lpR n M r u l b m T Q k = if m + z.2 < Q.1 then (m + z.2, fun p => if p < b + 1 then upR T b z.1 p else oaF n M r (u ||| 2 ^ z.1) z.1 p) else Q := ih
        rw [ih, fbR_s zb o]
        by_cases c1 : m + z.2 < Q.1
        · rw [if_pos c1]
          show (if m + (M l k + cvF n M r (u ||| 2 ^ k) k) < m + z.2 then _ else _) = _
          by_cases c2 : M l k + cvF n M r (u ||| 2 ^ k) k < z.2
          · rw [if_pos (by omega), if_pos c2]
            show _ = if m + (M l k + cvF n M r (u ||| 2 ^ k) k) < Q.1 then _ else Q
            rw [if_pos (by omega)]
          · rw [if_neg (by omega), if_neg c2]
            show _ = if m + z.2 < Q.1 then _ else Q
            rw [if_pos c1]
        · rw [if_neg c1]
          by_cases c2 : M l k + cvF n M r (u ||| 2 ^ k) k < z.2
          · rw [if_pos c2]
          · rw [if_neg c2, if_neg (by omega)]
            show _ = if m + z.2 < Q.1 then _ else Q
            rw [if_neg c1]
theorem rt_eq (hr : b + (r + 1) = n) (hq : Q.1 ≤ 1000000) : lpR n M r u l b m T Q n = rsR n M (r + 1) u l b m Q T := by
  have lf := lpR_fb (n := n) (M := M) (r := r) (u := u) (l := l) (b := b) (m := m) (T := T) (Q := Q) n
  have at_ := cvS_at (M := M) (f := cvF n M r) (u := u) (l := l) n
  have ge_ := cvS_ge (M := M) (f := cvF n M r) (u := u) (l := l) n
  have le_ := cvS_le (M := M) (f := cvF n M r) (u := u) (l := l) n
  have eV : cvF n M (r + 1) u l = cvS M (cvF n M r) u l n := rfl
  rw [lf]
  unfold rsR
  cases o : fbR M (cvF n M r) u l n with
  | none =>
    have no := fbR_no n o
    have v0 : cvF n M (r + 1) u l = 1000000 := at_.elim id (fun ⟨k, k1, k2, _⟩ => by rw [no k k1] at k2; cases k2)
    show Q = _
    rw [v0, if_neg (by omega)]
  | some z =>
    obtain ⟨i1, i2, i3, i4, i5⟩ := fbR_in n z o
    have g1 := ge_ z.1 i1 i2
    rw [← i3] at g1
    show (if m + z.2 < Q.1 then (m + z.2, fun p => if p < b + 1 then upR T b z.1 p else oaF n M r (u ||| 2 ^ z.1) z.1 p) else Q) = _
    by_cases c : z.2 < 1000000
    · have v0 : cvF n M (r + 1) u l = z.2 := at_.elim (fun e => by omega) (fun ⟨k, k1, k2, k3⟩ => by have := i4 k k1 k2; omega)
      obtain ⟨k, ek, en, k1, k2, k3⟩ := nx_in (n := n) (M := M) (r := r) (u := u) (l := l) (by rw [v0]; exact c)
      obtain ⟨-, -, -, j4⟩ := ncS_in n ek
      have kz : k = z.1 := by
        rw [v0] at k3 j4
        by_cases z1 : k < z.1
        · have := i5 k z1 k2
          omega
        · by_cases z2 : z.1 < k
          · exact absurd ⟨i2, i3.symm⟩ (j4 z.1 z2)
          · omega
      rw [v0]
      by_cases c1 : m + z.2 < Q.1
      · rw [if_pos c1, if_pos c1]
        refine Prod.ext rfl (funext (fun p => ?_))
        show (if p < b + 1 then (if p = b then z.1 else T p) else oaF n M r (u ||| 2 ^ z.1) z.1 p) = if p < b then T p else (if p = n - (r + 1) then nxF n M r u l else oaF n M r (u ||| 2 ^ nxF n M r u l) (nxF n M r u l) p)
        rw [en, kz, show n - (r + 1) = b by omega]
        by_cases p1 : p < b
        · rw [if_pos (show p < b + 1 by omega), if_neg (show ¬ p = b by omega), if_pos p1]
        · by_cases p2 : p = b
          · rw [if_pos (show p < b + 1 by omega), if_pos p2, if_neg p1, if_pos p2]
          · rw [if_neg (show ¬ p < b + 1 by omega), if_neg p1, if_neg p2]
      · rw [if_neg c1, if_neg c1]
    · have v0 : 1000000 ≤ cvF n M (r + 1) u l := at_.elim (fun e => by omega) (fun ⟨k, k1, k2, k3⟩ => by have := i4 k k1 k2; omega)
      rw [if_neg (by omega), if_neg (by omega)]
theorem rFr.rf : rFr h h := ⟨rfl, rfl, fun _ _ _ _ _ => rfl⟩
theorem rFr.tr {g2 : zH} (p : rFr h g) (q : rFr g g2) : rFr h g2 := ⟨q.1.trans p.1, q.2.1.trans p.2.1, fun b k e1 e2 e3 => (q.2.2 b k e1 e2 e3).trans (p.2.2 b k e1 e2 e3)⟩
theorem rFr.s1 {v : Int32} : rFr h (zsI h 211 k v) := ⟨rfl, rfl, fun b j e _ _ => zsI_no (fun z => e z.1)⟩
theorem rFr.s8 {v : Int32} : rFr h (zsI h 196 38 v) := ⟨rfl, rfl, fun b j _ _ e => zsI_no (fun z => e z)⟩
theorem rtM.rf (K : rtM n M h) (f : rFr h g) : rtM n M g := ⟨f.1.trans K.1, by rw [f.2.1]; exact K.2.1, (f.2.2 _ _ (by decide) (by decide) (by omega)).trans K.2.2.1, K.2.2.2.1, K.2.2.2.2.1, fun i j hi hj => (f.2.2 _ _ (by decide) (by decide) (by omega)).trans (K.2.2.2.2.2 i j hi hj)⟩
theorem rtM.sh (K : rtM n M h) : zsh h 196 = some (12, 39) ∧ zsh h 199 = some (14, 363) ∧ zsh h 210 = some (14, 49) ∧ zsh h 211 = some (14, 7) ∧ zsh h 212 = some (14, 7) := ⟨zsh_by K.1 (by decide +kernel), zsh_by K.1 (by decide +kernel), zsh_by K.1 (by decide +kernel), zsh_by K.1 (by decide +kernel), zsh_by K.1 (by decide +kernel)⟩
theorem M_tryR : ∀ (r d b u m : Nat) (Q : roQ) (T : Nat → Nat) (h : zH), b + r = n → 1 ≤ b → u < 2 ^ n → rpc u 7 = b → T (b - 1) < n → u.testBit (T (b - 1)) = true → m ≤ 1000000 * b → rtM n M h → stR n Q h → trR b T h → zPa d mX12_tryRound [.inr (.inr (some 196)), .inl (nI b), .inl (nI u), .inl (nI m)] h (fun v g => v = none ∧ rFr h g ∧ trR b T g ∧ stR n (rsR n M r u (T (b - 1)) b m Q T) g) := by
  intro r
  induction r with
  | zero =>
    intro d b u m Q T h hr hb1 hu hpc hl hlb hm K S P N
    have n7 := K.2.2.2.1
    obtain ⟨s196, s199, s210, s211, s212⟩ := K.sh
    obtain ⟨r15, r35, r36, r37⟩ := K.2.1
    have e4 := K.2.2.1
    obtain ⟨S1, S2, S3⟩ := S
    have eb : b = n := by omega
    have rs : rsR n M 0 u (T (b - 1)) b m Q T = if m < Q.1 then (m, fun p => if p < b then T p else 0) else Q := rfl
    rw [rs]
    show zPn N none d mX12_tryRound (0, [(0, .inr (.inr (some 196))), (1, .inl (nI b)), (2, .inl (nI u)), (3, .inl (nI m))], [], h) _
    refine pa_iload_n (pc' := 1) dX12_tryRound_0 rfl rfl ?_
    refine pa_aload_n (pc' := 2) dX12_tryRound_1 rfl rfl ?_
    refine pa_getI (pc' := 5) (n := 39) (v := nI Q.1) dX12_tryRound_2 fl_12_410 s196 (by decide) S1 rfl ?_
    by_cases c : m < Q.1
    case neg =>
      rw [if_neg c]
      refine pa_icmp_f (pc' := 8) dX12_tryRound_5 (zj_nlt (by rw [nI_toInt (by omega), nI_toInt (by omega)]; omega)) (by decide) rfl ?_
      refine pa_vret dX12_tryRound_8 rfl ?_
      exact ⟨rfl, rFr.rf, P, S1, S2, S3⟩
    rw [if_pos c]
    refine pa_icmp_t (pc' := 9) dX12_tryRound_5 (zj_lt (by rw [nI_toInt (by omega), nI_toInt (by omega)]; omega)) (by decide) ?_
    refine pa_iload_n (pc' := 10) dX12_tryRound_9 rfl rfl ?_
    refine pa_aload_n (pc' := 11) dX12_tryRound_10 rfl rfl ?_
    refine pa_getR (pc' := 14) (n := 39) (r := 199) dX12_tryRound_11 fl_12_20 s196 (by decide) r15 rfl ?_
    refine pa_iconst (v := nI 4) (pc' := 15) dX12_tryRound_14 (by decide) rfl ?_
    refine pa_iald (pc' := 16) dX12_tryRound_15 s199 rfl (fun _ => ?_)
    rw [nI_clamp (by omega), e4]
    refine pa_icmp_f (pc' := 19) dX12_tryRound_16 (decide_eq_false (not_not_intro (by rw [eb]))) (by decide) rfl ?_
    refine pa_aload_n (pc' := 20) dX12_tryRound_19 rfl rfl ?_
    refine pa_iload_n (pc' := 21) dX12_tryRound_20 rfl rfl ?_
    refine pa_putI (pc' := 24) (n := 39) dX12_tryRound_21 fl_12_410 s196 (Or.inl rfl) (Or.inl rfl) rfl ?_
    refine pa_aload_n (pc' := 25) dX12_tryRound_24 rfl rfl ?_
    refine pa_getR (pc' := 28) (n := 39) (r := 211) dX12_tryRound_25 fl_12_56 s196 (by decide) r36 rfl ?_
    refine pa_iconst (v := nI 0) (pc' := 29) dX12_tryRound_28 (by decide) rfl ?_
    refine pa_aload_n (pc' := 30) dX12_tryRound_29 rfl rfl ?_
    refine pa_getR (pc' := 33) (n := 39) (r := 212) dX12_tryRound_30 fl_12_59 s196 (by decide) r37 rfl ?_
    refine pa_iconst (v := nI 0) (pc' := 34) dX12_tryRound_33 (by decide) rfl ?_
    refine pa_iload_n (pc' := 35) dX12_tryRound_34 rfl rfl ?_
    refine pa_calls (pc' := 38) (kd := 1) (vs := [.inr (.inr (some 211)), .inl (nI 0), .inr (.inr (some 212)), .inl (nI 0), .inl (nI b)]) (rest := []) dX12_tryRound_35 ml_12_176 (.inl rfl) rfl rfl rfl (fun d' _ => (M_copy (h := zsI h 196 38 (nI m)) s211 s212 (by decide) (by omega) (by omega) (by decide) (by decide))) (fun v g hq => ?_)
    obtain ⟨ev, eh⟩ := hq
    subst ev
    show zPn N none d mX12_tryRound (38, _, [], g) _
    refine pa_vret dX12_tryRound_38 rfl ?_
    subst eh
    refine ⟨rfl, ⟨rfl, rfl, fun b k e1 e2 e3 => ?_⟩, fun p hp => ?_, ?_, show m ≤ 1000000 by omega, fun _ p hp => ?_⟩
    · rw [cpyH_at, if_neg (fun z => e2 z.1), zsI_no (fun z => e3 z)]
    · rw [cpyH_at, if_neg (by omega), zsI_no (by omega)]
      exact P p hp
    · rw [cpyH_at, if_neg (by omega), zsI_eq]
    · rw [cpyH_at, if_pos ⟨rfl, Nat.zero_le _, by omega⟩, Nat.zero_add, Nat.sub_zero, zsI_no (by omega), P p (by omega)]
      show nI (T p) = nI (if p < b then T p else 0)
      rw [if_pos (by omega)]
  | succ r ih =>
    intro d b u m Q T h hr hb1 hu hpc hl hlb hm K S P N
    have n7 := K.2.2.2.1
    have p7 := p7r n7
    have hM := K.2.2.2.2.1
    obtain ⟨s196, s199, s210, s211, s212⟩ := K.sh
    obtain ⟨r15, r35, r36, r37⟩ := K.2.1
    have e4 := K.2.2.1
    have lp : ∀ (N i : Nat) (ls : zL) (g : zH), i ≤ n → rFr h g → trR b T g → stR n (lpR n M r u (T (b - 1)) b m T Q i) g → zget ls 0 = some (.inr (.inr (some 196))) → zget ls 1 = some (.inl (nI b)) → zget ls 2 = some (.inl (nI u)) → zget ls 3 = some (.inl (nI m)) → zget ls 4 = some (.inl (nI i)) → zPn N none d mX12_tryRound (42, ls, [], g) (fun v g => v = none ∧ rFr h g ∧ trR b T g ∧ stR n (rsR n M (r + 1) u (T (b - 1)) b m Q T) g) := by
      intro N
      induction N with
      | zero => intros; exact zPn.zero
      | succ N ihN =>
        intro i ls g hi f P S' hl0 hl1 hl2 hl3 hl4
        have K := K.rf f
        obtain ⟨s196, s199, s210, s211, s212⟩ := K.sh
        obtain ⟨r15, r35, r36, r37⟩ := K.2.1
        have e4 := K.2.2.1
        refine pa_iload (pc' := 44) dX12_tryRound_42 hl4 rfl ?_
        refine pa_aload_n (pc' := 45) dX12_tryRound_44 hl0 rfl ?_
        refine pa_getR (pc' := 48) (n := 39) (r := 199) dX12_tryRound_45 fl_12_20 s196 (by decide) r15 rfl ?_
        refine pa_iconst (v := nI 4) (pc' := 49) dX12_tryRound_48 (by decide) rfl ?_
        refine pa_iald (pc' := 50) dX12_tryRound_49 s199 rfl (fun _ => ?_)
        rw [nI_clamp (by omega), e4]
        refine pa_icmp (pc' := 113) (pc2 := 53) dX12_tryRound_50 (by decide) rfl (fun z => ?_) (fun z => ?_)
        · have z := zi_nlt (zk_ge_lt z)
          rw [nI_toInt (by omega), nI_toInt (by omega)] at z
          have ei : i = n := by omega
          rw [ei, rt_eq (by omega) S.2.1] at S'
          refine pa_vret dX12_tryRound_113 rfl ?_
          exact ⟨rfl, f, P, S'⟩
        have z := zi_lt (zk_ge_lt z)
        rw [nI_toInt (by omega), nI_toInt (by omega)] at z
        have hi : i < n := by omega
        refine pa_iload_n (pc' := 54) dX12_tryRound_53 hl2 rfl ?_
        refine pa_iload (pc' := 56) dX12_tryRound_54 hl4 rfl ?_
        refine pa_calls (pc' := 59) (kd := 1) (vs := [.inl (nI u), .inl (nI i)]) (rest := []) dX12_tryRound_56 ml_12_298 (.inl rfl) rfl rfl rfl (fun d' _ => M_hasBitK) (fun v g9 hq => ?_)
        obtain ⟨ev, eh⟩ := hq
        subst ev
        rw [eh]
        show zPn (N + 1) none d mX12_tryRound (59, _, [.inl (if clB (nI u) i = true then 1 else 0)], g) _
        rw [roS4 u (by omega) i (by omega)]
        by_cases y : u.testBit i = true
        · rw [if_pos y]
          refine pa_if_f (pc' := 62) dX12_tryRound_59 (show zcond .eq (1 : Int32) 0 = false by decide) (by decide) rfl ?_
          refine pa_goto (pc' := 107) dX12_tryRound_62 (by decide) ?_
          refine pa_iinc (pc' := 110) (v := nI (i + 1)) dX12_tryRound_107 hl4 (by decide) (nI_add i 1) rfl rfl ?_
          refine pa_gotos (pc' := 42) dX12_tryRound_110 (by decide) ?_
          exact ihN (i + 1) _ g (by omega) f P (by rw [lpR_b y]; exact S') (zget_s1 hl0 (by decide) (by simp [zcat])) (zget_s1 hl1 (by decide) (by simp [zcat])) (zget_s1 hl2 (by decide) (by simp [zcat])) (zget_s1 hl3 (by decide) (by simp [zcat])) zget_s1e
        have y2 := Bool.eq_false_iff.mpr y
        have ne : T (b - 1) ≠ i := fun e => y (by rw [← e]; exact hlb)
        obtain ⟨q1, q2, q3, q4⟩ := roB2 n (by omega) u hu i hi y2
        have eM : reM n M (T (b - 1)) i = M (T (b - 1)) i := by
          unfold reM
          rw [if_neg ne, if_pos ⟨hl, hi⟩]
        have ml := hM (T (b - 1)) i
        have o1 : (zsI g 211 b (nI i)).2.1 211 (b - 1) = nI (T (b - 1)) := (zsI_no (by omega)).trans (P (b - 1) (by omega))
        have o2 : (zsI g 211 b (nI i)).2.1 210 (7 * T (b - 1) + i) = nI (M (T (b - 1)) i) := by
          rw [zsI_no (by omega), K.2.2.2.2.2 (T (b - 1)) i (by omega) (by omega), eM]
        have P7 : trR (b + 1) (upR T b i) (zsI g 211 b (nI i)) := fun p hp => by
          rw [zsI_at]
          show _ = nI (if p = b then i else T p)
          by_cases zp : p = b
          · rw [if_pos ⟨rfl, zp⟩, if_pos zp]
          · rw [if_neg (fun w => zp w.2), if_neg zp]
            exact P p (by omega)
        have S7 : stR n (lpR n M r u (T (b - 1)) b m T Q i) (zsI g 211 b (nI i)) := ⟨(zsI_no (by omega)).trans S'.1, S'.2.1, fun w p hp => (zsI_no (by omega)).trans (S'.2.2 w p hp)⟩
        have ul : upR T b i b = i := if_pos rfl
        have IH : ∀ d', zPa d' mX12_tryRound [.inr (.inr (some 196)), .inl (nI (b + 1)), .inl (nI (u ||| 2 ^ i)), .inl (nI (m + M (T (b - 1)) i))] (zsI g 211 b (nI i)) (fun v g2 => v = none ∧ rFr (zsI g 211 b (nI i)) g2 ∧ trR (b + 1) (upR T b i) g2 ∧ stR n (rsR n M r (u ||| 2 ^ i) i (b + 1) (m + M (T (b - 1)) i) (lpR n M r u (T (b - 1)) b m T Q i) (upR T b i)) g2) := fun d' => by
          have := ih d' (b + 1) (u ||| 2 ^ i) (m + M (T (b - 1)) i) (lpR n M r u (T (b - 1)) b m T Q i) (upR T b i) (zsI g 211 b (nI i)) (by omega) (by omega) q2 (by rw [q1, hpc]) (by rw [Nat.add_sub_cancel, ul]; exact hi) (by rw [Nat.add_sub_cancel, ul]; exact q4) (by omega) (K.rf rFr.s1) S7 P7
          rw [Nat.add_sub_cancel, ul] at this
          exact this
        rw [if_neg y]
        refine pa_if_t (pc' := 65) dX12_tryRound_59 (show zcond .eq (0 : Int32) 0 = true by decide) (by decide) ?_
        refine pa_aload_n (pc' := 66) dX12_tryRound_65 hl0 rfl ?_
        refine pa_getR (pc' := 69) (n := 39) (r := 211) dX12_tryRound_66 fl_12_56 s196 (by decide) r36 rfl ?_
        refine pa_iload_n (pc' := 70) dX12_tryRound_69 hl1 rfl ?_
        refine pa_iload (pc' := 72) dX12_tryRound_70 hl4 rfl ?_
        refine pa_iast (pc' := 73) dX12_tryRound_72 s211 rfl (fun _ => ?_)
        rw [nI_clamp (by omega)]
        refine pa_aload_n (pc' := 74) dX12_tryRound_73 hl0 rfl ?_
        refine pa_iload_n (pc' := 75) dX12_tryRound_74 hl1 rfl ?_
        refine pa_iconst (v := nI 1) (pc' := 76) dX12_tryRound_75 (by decide) rfl ?_
        refine pa_iadd (pc' := 77) (v := nI (b + 1)) dX12_tryRound_76 (nI_add _ _) rfl ?_
        refine pa_iload_n (pc' := 78) dX12_tryRound_77 hl2 rfl ?_
        refine pa_iconst (v := nI 1) (pc' := 79) dX12_tryRound_78 (by decide) rfl ?_
        refine pa_iload (pc' := 81) dX12_tryRound_79 hl4 rfl ?_
        refine pa_ishl (pc' := 82) dX12_tryRound_81 rfl rfl ?_
        refine pa_ior (pc' := 83) dX12_tryRound_82 rfl rfl ?_
        rw [roS2 u (by omega) i (by omega)]
        refine pa_iload_n (pc' := 84) dX12_tryRound_83 hl3 rfl ?_
        refine pa_aload_n (pc' := 85) dX12_tryRound_84 hl0 rfl ?_
        refine pa_getR (pc' := 88) (n := 39) (r := 210) dX12_tryRound_85 fl_12_53 s196 (by decide) r35 rfl ?_
        refine pa_bipush (v := nI 7) (pc' := 90) dX12_tryRound_88 (by decide) rfl ?_
        refine pa_aload_n (pc' := 91) dX12_tryRound_90 hl0 rfl ?_
        refine pa_getR (pc' := 94) (n := 39) (r := 211) dX12_tryRound_91 fl_12_56 s196 (by decide) r36 rfl ?_
        refine pa_iload_n (pc' := 95) dX12_tryRound_94 hl1 rfl ?_
        refine pa_iconst (v := nI 1) (pc' := 96) dX12_tryRound_95 (by decide) rfl ?_
        refine pa_isub (pc' := 97) (v := nI (b - 1)) dX12_tryRound_96 (nI_sub (by omega)) rfl ?_
        refine pa_iald (pc' := 98) dX12_tryRound_97 s211 rfl (fun _ => ?_)
        rw [nI_clamp (by omega), o1]
        refine pa_imul (pc' := 99) (v := nI (7 * (T (b - 1)))) dX12_tryRound_98 (nI_mul _ _) rfl ?_
        refine pa_iload (pc' := 101) dX12_tryRound_99 hl4 rfl ?_
        refine pa_iadd (pc' := 102) (v := nI (7 * T (b - 1) + i)) dX12_tryRound_101 (nI_add _ _) rfl ?_
        refine pa_iald (pc' := 103) dX12_tryRound_102 s210 rfl (fun _ => ?_)
        rw [nI_clamp (by omega), o2]
        refine pa_iadd (pc' := 104) (v := nI (m + (M (T (b - 1)) i))) dX12_tryRound_103 (nI_add _ _) rfl ?_
        refine pa_callv (pc' := 107) (vs := [.inl (nI (b + 1)), .inl (nI ((u ||| 2 ^ i))), .inl (nI (m + (M (T (b - 1)) i)))]) (rest := []) dX12_tryRound_104 ml_12_413 (by decide) rfl rfl rfl (fun d' _ => (IH d')) (fun v g2 hq => ?_)
        obtain ⟨ev, eh⟩ := hq
        subst ev
        show zPn (N + 1) none d mX12_tryRound (107, _, [], g2) _
        obtain ⟨f2, P2, S2⟩ := eh
        refine pa_iinc (pc' := 110) (v := nI (i + 1)) dX12_tryRound_107 hl4 (by decide) (nI_add i 1) rfl rfl ?_
        refine pa_gotos (pc' := 42) dX12_tryRound_110 (by decide) ?_
        refine ihN (i + 1) _ g2 (by omega) ((f.tr rFr.s1).tr f2) (fun p hp => ?_) (by rw [lpR_n y]; exact S2) (zget_s1 hl0 (by decide) (by simp [zcat])) (zget_s1 hl1 (by decide) (by simp [zcat])) (zget_s1 hl2 (by decide) (by simp [zcat])) (zget_s1 hl3 (by decide) (by simp [zcat])) zget_s1e
        rw [P2 p (by omega)]
        show nI (if p = b then i else T p) = _
        rw [if_neg (by omega)]
    obtain ⟨S1, S2, S3⟩ := S
    show zPn N none d mX12_tryRound (0, [(0, .inr (.inr (some 196))), (1, .inl (nI b)), (2, .inl (nI u)), (3, .inl (nI m))], [], h) _
    refine pa_iload_n (pc' := 1) dX12_tryRound_0 rfl rfl ?_
    refine pa_aload_n (pc' := 2) dX12_tryRound_1 rfl rfl ?_
    refine pa_getI (pc' := 5) (n := 39) (v := nI Q.1) dX12_tryRound_2 fl_12_410 s196 (by decide) S1 rfl ?_
    by_cases c : m < Q.1
    case neg =>
      have rs : rsR n M (r + 1) u (T (b - 1)) b m Q T = Q := if_neg (by omega)
      rw [rs]
      refine pa_icmp_f (pc' := 8) dX12_tryRound_5 (zj_nlt (by rw [nI_toInt (by omega), nI_toInt (by omega)]; omega)) (by decide) rfl ?_
      refine pa_vret dX12_tryRound_8 rfl ?_
      exact ⟨rfl, rFr.rf, P, S1, S2, S3⟩
    refine pa_icmp_t (pc' := 9) dX12_tryRound_5 (zj_lt (by rw [nI_toInt (by omega), nI_toInt (by omega)]; omega)) (by decide) ?_
    refine pa_iload_n (pc' := 10) dX12_tryRound_9 rfl rfl ?_
    refine pa_aload_n (pc' := 11) dX12_tryRound_10 rfl rfl ?_
    refine pa_getR (pc' := 14) (n := 39) (r := 199) dX12_tryRound_11 fl_12_20 s196 (by decide) r15 rfl ?_
    refine pa_iconst (v := nI 4) (pc' := 15) dX12_tryRound_14 (by decide) rfl ?_
    refine pa_iald (pc' := 16) dX12_tryRound_15 s199 rfl (fun _ => ?_)
    rw [nI_clamp (by omega), e4]
    refine pa_icmp_t (pc' := 39) dX12_tryRound_16 (decide_eq_true (fun y => by have := (nI_eq (by omega) (by omega)).mp y; omega)) (by decide) ?_
    refine pa_iconst (v := nI 0) (pc' := 40) dX12_tryRound_39 (by decide) rfl ?_
    refine pa_istore (pc' := 42) dX12_tryRound_40 (by decide) rfl rfl ?_
    exact lp _ 0 _ h (Nat.zero_le _) rFr.rf P ⟨S1, S2, S3⟩ rfl rfl rfl rfl rfl
end RTR
/-- what the reference's seeking of a round leaves -/
def skR (n : Nat) (M : roX) (i : Nat) (v : Option zV) (g : zH) : Prop := (cvF n M (n - 1) (2 ^ i) i < 1000000 ∧ v = some (.inl (nI (cvF n M (n - 1) (2 ^ i) i))) ∧ ∀ p, p < n → g.2.1 212 p = nI (orF n M i p)) ∨ (¬ cvF n M (n - 1) (2 ^ i) i < 1000000 ∧ v = some (.inl (-2)))
theorem M_seekR (B0 : bgM A s h) (r35 : h.2.2.2.1 196 35 = some 210) (r36 : h.2.2.2.1 196 36 = some 211) (r37 : h.2.2.2.1 196 37 = some 212) (hi : i < cI A) : zPa d mX12_seekRound [.inr (.inr (some 196)), .inl (nI i)] h (fun v g => g.1 = h.1 ∧ g.2.2 = h.2.2 ∧ skR (cI A) (roM A s.2.1) i v g) := by
  intro N
  obtain ⟨hI, hT, hB, hN⟩ := B0.1
  obtain ⟨n7, b2, b3, b4, b5⟩ := hI.2.2.1
  have s196 := sh_196' B0.2.1.1
  obtain ⟨-, t2, t3, t4⟩ := roB3 (cI A) (by omega) i hi
  have p7 := p7r n7
  show zPn N none d mX12_seekRound (0, [(0, .inr (.inr (some 196))), (1, .inl (nI i))], [], h) _
  refine pa_aload_n (pc' := 1) dX12_seekRound_0 rfl rfl ?_
  refine pa_callv (pc' := 4) (vs := []) (rest := []) dX12_seekRound_1 ml_12_416 (by decide) rfl rfl rfl (fun d' _ => (M_layFar B0 r35)) (fun v g1 hq => ?_)
  obtain ⟨ev, eh⟩ := hq
  subst ev
  show zPn N none d mX12_seekRound (4, _, [], g1) _
  obtain ⟨f1, R1⟩ := eh
  have B := B0.fw f1.fw
  have g1h := B.2.1.1
  have q196 := sh_196' g1h
  have q211 : zsh g1 211 = some (14, 7) := zsh_by g1h (by decide +kernel)
  have q36 : g1.2.2.2.1 196 36 = some 211 := by rw [f1.2.1]; exact r36
  have hM : ∀ a b, roM A s.2.1 a b ≤ 1000000 := fun a b => fwK_le (roI_le hI hB hT) _ a b
  have K1 : rtM (cI A) (roM A s.2.1) g1 := ⟨g1h, ⟨B.2.2.1.2.1.1, by rw [f1.2.1]; exact r35, q36, by rw [f1.2.1]; exact r37⟩, B.2.1.2.2.2.2.1.1, n7, hM, R1⟩
  have F : rFr g1 (zsI (zsI g1 196 38 1000000) 211 0 (nI i)) := rFr.s8.tr rFr.s1
  have IH : ∀ d', zPa d' mX12_tryRound [.inr (.inr (some 196)), .inl (nI 1), .inl (nI (2 ^ i)), .inl (nI 0)] (zsI (zsI g1 196 38 1000000) 211 0 (nI i)) (fun v g2 => v = none ∧ rFr (zsI (zsI g1 196 38 1000000) 211 0 (nI i)) g2 ∧ trR 1 (fun _ => i) g2 ∧ stR (cI A) (rsR (cI A) (roM A s.2.1) (cI A - 1) (2 ^ i) i 1 0 (1000000, fun _ => 0) (fun _ => i)) g2) := fun d' => M_tryR (cI A - 1) d' 1 (2 ^ i) 0 (1000000, fun _ => 0) (fun _ => i) _ (by omega) (Nat.le_refl _) t3 t2 hi t4 (Nat.zero_le _) (K1.rf F) ⟨(zsI_no (by omega)).trans (zsI_eq.trans roL), Nat.le_refl _, fun w => absurd w (Nat.lt_irrefl _)⟩ (fun p hp => by
    rw [show p = 0 by omega]
    exact zsI_eq)
  refine pa_aload_n (pc' := 5) dX12_seekRound_4 rfl rfl ?_
  refine pa_ldcw (pc' := 8) dX12_seekRound_5 cl_12_341 rfl rfl ?_
  refine pa_putI (pc' := 11) (n := 39) dX12_seekRound_8 fl_12_410 q196 (Or.inl rfl) (Or.inl rfl) rfl ?_
  refine pa_aload_n (pc' := 12) dX12_seekRound_11 rfl rfl ?_
  refine pa_getR (pc' := 15) (n := 39) (r := 211) dX12_seekRound_12 fl_12_56 q196 (by decide) q36 rfl ?_
  refine pa_iconst (v := nI 0) (pc' := 16) dX12_seekRound_15 (by decide) rfl ?_
  refine pa_iload_n (pc' := 17) dX12_seekRound_16 rfl rfl ?_
  refine pa_iast (pc' := 18) dX12_seekRound_17 q211 rfl (fun _ => ?_)
  rw [nI_clamp (by omega)]
  refine pa_aload_n (pc' := 19) dX12_seekRound_18 rfl rfl ?_
  refine pa_iconst (v := nI 1) (pc' := 20) dX12_seekRound_19 (by decide) rfl ?_
  refine pa_iconst (v := nI 1) (pc' := 21) dX12_seekRound_20 (by decide) rfl ?_
  refine pa_iload_n (pc' := 22) dX12_seekRound_21 rfl rfl ?_
  refine pa_ishl (pc' := 23) dX12_seekRound_22 rfl rfl ?_
  rw [roS3 i (by omega)]
  refine pa_iconst (v := nI 0) (pc' := 24) dX12_seekRound_23 (by decide) rfl ?_
  refine pa_callv (pc' := 27) (vs := [.inl (nI 1), .inl (nI (2 ^ i)), .inl (nI 0)]) (rest := []) dX12_seekRound_24 ml_12_413 (by decide) rfl rfl rfl (fun d' _ => (IH d')) (fun v g2 hq => ?_)
  obtain ⟨ev, eh⟩ := hq
  subst ev
  show zPn N none d mX12_seekRound (27, _, [], g2) _
  obtain ⟨f2, -, S2⟩ := eh
  have F2 := F.tr f2
  have z196 := sh_196' (F2.1.trans g1h)
  have e1 : g2.1 = h.1 := F2.1.trans f1.1
  have e2 : g2.2.2 = h.2.2 := F2.2.1.trans f1.2.1
  have rs : rsR (cI A) (roM A s.2.1) (cI A - 1) (2 ^ i) i 1 0 (1000000, fun _ => 0) (fun _ => i) = if 0 + cvF (cI A) (roM A s.2.1) (cI A - 1) (2 ^ i) i < 1000000 then (0 + cvF (cI A) (roM A s.2.1) (cI A - 1) (2 ^ i) i, fun p => if p < 1 then i else oaF (cI A) (roM A s.2.1) (cI A - 1) (2 ^ i) i p) else (1000000, fun _ => 0) := rfl
  rw [rs, Nat.zero_add] at S2
  by_cases lt : cvF (cI A) (roM A s.2.1) (cI A - 1) (2 ^ i) i < 1000000
  · rw [if_pos lt] at S2
    obtain ⟨S3, -, S4⟩ := S2
    have S3 : g2.2.1 196 38 = nI (cvF (cI A) (roM A s.2.1) (cI A - 1) (2 ^ i) i) := S3
    refine pa_aload_n (pc' := 28) dX12_seekRound_27 rfl rfl ?_
    refine pa_getI (pc' := 31) (n := 39) (v := nI (cvF (cI A) (roM A s.2.1) (cI A - 1) (2 ^ i) i)) dX12_seekRound_28 fl_12_410 z196 (by decide) S3 rfl ?_
    refine pa_ldcw (pc' := 34) dX12_seekRound_31 cl_12_341 rfl rfl ?_
    refine pa_icmp_t (pc' := 42) dX12_seekRound_34 (decide_eq_true (fun y => by have := (nI_eq (by omega) (by omega)).mp (y.trans roL); omega)) (by decide) ?_
    refine pa_aload_n (pc' := 43) dX12_seekRound_42 rfl rfl ?_
    refine pa_getI (pc' := 46) (n := 39) (v := nI (cvF (cI A) (roM A s.2.1) (cI A - 1) (2 ^ i) i)) dX12_seekRound_43 fl_12_410 z196 (by decide) S3 rfl ?_
    refine pa_iret dX12_seekRound_46 rfl rfl ?_
    refine ⟨e1, e2, .inl ⟨lt, rfl, fun p hp => ?_⟩⟩
    rw [S4 lt p hp]
    show nI (if p < 1 then i else _) = nI (if p = 0 then i else _)
    by_cases z : p = 0
    · rw [if_pos (by omega), if_pos z]
    · rw [if_neg (by omega), if_neg z]
  · rw [if_neg lt] at S2
    obtain ⟨S3, -⟩ := S2
    have S3 : g2.2.1 196 38 = 1000000 := S3.trans roL.symm
    refine pa_aload_n (pc' := 28) dX12_seekRound_27 rfl rfl ?_
    refine pa_getI (pc' := 31) (n := 39) (v := 1000000) dX12_seekRound_28 fl_12_410 z196 (by decide) S3 rfl ?_
    refine pa_ldcw (pc' := 34) dX12_seekRound_31 cl_12_341 rfl rfl ?_
    refine pa_icmp_f (pc' := 37) dX12_seekRound_34 (show zcond .ne (1000000 : Int32) 1000000 = false by decide) (by decide) rfl ?_
    refine pa_bipush (v := (-2)) (pc' := 39) dX12_seekRound_37 (by decide) rfl ?_
    refine pa_goto (pc' := 46) dX12_seekRound_39 (by decide) ?_
    refine pa_iret dX12_seekRound_46 rfl rfl ?_
    exact ⟨e1, e2, .inr ⟨lt, rfl⟩⟩
theorem N_round12 (z : lZ A c s H J g) (m : lMid kk im t g h) (hx0 : lX A c s H J g) : zPa d mX12_round [.inr (.inr (some 196)), .inl x] h (fun v _ => v = some (.inl (roV A s x))) := by
  intro N
  have s196 : zsh h 196 = some (12, 39) := zsh_by m.2.1.2.2.2 (by decide +kernel)
  generalize eg : zsI (zsI h 196 0 0) 196 11 0 = h2
  have e2 : ∀ a k, a ≠ 196 → h2.2.1 a k = h.2.1 a k := fun a k ha => by rw [← eg, zsI_no (by omega), zsI_no (by omega)]
  have e3 : ∀ k, k ≠ 0 → k ≠ 11 → h2.2.1 196 k = h.2.1 196 k := fun k w1 w2 => by rw [← eg, zsI_no (by omega), zsI_no (by omega)]
  have h1 : h2.1 = hh_487.1 := by rw [← eg]; exact m.2.1.2.2.2
  have hA : lPA A c h2 := by rw [← eg]; exact (m.pa z.1.1).gd
  have B : cI A ≠ 0 → bgM A s h2 := fun ne => by rw [← eg]; exact (z.bm m ne).gd
  have er : h2.2.2.2.1 = h.2.2.2.1 := by rw [← eg]; rfl
  have q15 : h2.2.2.2.1 196 15 = some 199 := by rw [er]; exact m.r15
  have q17 : h2.2.2.2.1 196 17 = some 201 := by rw [er]; exact m.mw.2.1
  have z196 : zsh h2 196 = some (12, 39) := zsh_by h1 (by decide +kernel)
  have z199 : zsh h2 199 = some (14, 363) := zsh_by h1 (by decide +kernel)
  have z201 : zsh h2 201 = some (14, 76) := zsh_by h1 (by decide +kernel)
  have M : nMo A s 201 0 h2 := (z.lm m).1.1.fr (fun k => e2 _ _ (by decide))
  have hT := z.1.2.1
  have hB := z.1.2.2
  have hI := z.1.1.1
  have hN := z.2.1.1
  have k0 : (0 : Int32).toInt = 0 := by decide
  obtain ⟨b1, b2, b3, b4, b5⟩ := hI.2.2.1
  have rm : h2.2.2.2.1 196 35 = some 210 ∧ h2.2.2.2.1 196 36 = some 211 ∧ h2.2.2.2.1 196 37 = some 212 := by rw [er]; exact ⟨m.2.1.1.2.2.1 196 35 210 (by decide +kernel), m.2.1.1.2.2.1 196 36 211 (by decide +kernel), m.2.1.1.2.2.1 196 37 212 (by decide +kernel)⟩
  show zPn N none d mX12_round (0, [(0, .inr (.inr (some 196))), (1, .inl x)], [], h) _
  refine pa_aload_n (pc' := 1) dX12_round_0 rfl rfl ?_
  refine pa_callv (pc' := 4) (vs := []) (rest := []) dX12_round_1 ml_12_167 (by decide) rfl rfl rfl (fun d' _ => (m_good s196)) (fun v h3 hq => ?_)
  obtain ⟨ev, eh⟩ := hq
  subst ev
  show zPn N none d mX12_round (4, _, [], h3) _
  rw [eg] at eh
  subst eh
  refine pa_aload_n (pc' := 5) dX12_round_4 rfl rfl ?_
  refine pa_iload_n (pc' := 6) dX12_round_5 rfl rfl ?_
  refine pa_callv (pc' := 9) (vs := [.inl x]) (rest := []) dX12_round_6 ml_12_277 (by decide) rfl rfl rfl (fun d' _ => (N_isI12 hA q15 h1)) (fun v g9 hq => ?_)
  obtain ⟨ev, eh⟩ := hq
  subst ev
  rw [eh]
  show zPn N none d mX12_round (9, _, [.inl (if 0 ≤ (x).toInt ∧ (x).toInt < (cI A:Int) then 1 else 0)], h3) _
  by_cases hx : 0 ≤ x.toInt ∧ x.toInt < (cI A : Int)
  case neg =>
    rw [if_neg hx]
    refine pa_if_t (pc' := 20) dX12_round_9 (by decide) (by decide) ?_
    refine pa_aload_n (pc' := 21) dX12_round_20 rfl rfl ?_
    refine pa_iconst (v := nI 1) (pc' := 22) dX12_round_21 (by decide) rfl ?_
    refine pa_callv (pc' := 25) (vs := [.inl (nI 1)]) (rest := []) dX12_round_22 ml_12_170 (by decide) rfl rfl rfl (fun d' _ => (m_no z196)) (fun v g hq => ?_)
    obtain ⟨ev, eh⟩ := hq
    subst ev
    show zPn N none d mX12_round (25, _, [.inl ((-1))], g) _
    refine pa_iret dX12_round_25 rfl rfl ?_
    unfold roV
    rw [if_neg hx]
  rw [if_pos hx]
  obtain ⟨i, rfl, hi2, ei⟩ := nI_ob hx.1 hx.2
  have V : roV A s (nI i) = if roT A s i < 1000000 then nI (roT A s i) else -2 := by
    unfold roV
    rw [if_pos hx, ei]
  rw [V]
  have B := B (show cI A ≠ 0 by omega)
  refine pa_if_f (pc' := 12) dX12_round_9 (by decide) (by decide) rfl ?_
  refine pa_aload_n (pc' := 13) dX12_round_12 rfl rfl ?_
  refine pa_iload_n (pc' := 14) dX12_round_13 rfl rfl ?_
  refine pa_callv (pc' := 17) (vs := [.inl (nI i)]) (rest := []) dX12_round_14 ml_12_419 (by decide) rfl rfl rfl (fun d' _ => M_seekR (d := d') B rm.1 rm.2.1 rm.2.2 hi2) (fun v g9 hq => ?_)
  obtain ⟨-, -, hq⟩ := hq
  rcases hq with ⟨lt, ev, -⟩ | ⟨lt, ev⟩
  · subst ev
    rw [if_pos (show roT A s i < 1000000 from lt)]
    show zPn N none d mX12_round (17, _, [.inl (nI (roT A s i))], g9) _
    refine pa_goto (pc' := 25) dX12_round_17 (by decide) ?_
    refine pa_iret dX12_round_25 rfl rfl ?_
    rfl
  · subst ev
    rw [if_neg (show ¬ roT A s i < 1000000 from lt)]
    show zPn N none d mX12_round (17, _, [.inl (-2)], g9) _
    refine pa_goto (pc' := 25) dX12_round_17 (by decide) ?_
    refine pa_iret dX12_round_25 rfl rfl ?_
    rfl
theorem N_roundAt12 (z : lZ A c s H J g) (m : lMid kk im t g h) (hx0 : lX A c s H J g) : zPa d mX12_roundAt [.inr (.inr (some 196)), .inl x, .inl y] h (fun v _ => v = some (.inl (raV A s x y))) := by
  intro N
  have s196 : zsh h 196 = some (12, 39) := zsh_by m.2.1.2.2.2 (by decide +kernel)
  generalize eg : zsI (zsI h 196 0 0) 196 11 0 = h2
  have e2 : ∀ a k, a ≠ 196 → h2.2.1 a k = h.2.1 a k := fun a k ha => by rw [← eg, zsI_no (by omega), zsI_no (by omega)]
  have e3 : ∀ k, k ≠ 0 → k ≠ 11 → h2.2.1 196 k = h.2.1 196 k := fun k w1 w2 => by rw [← eg, zsI_no (by omega), zsI_no (by omega)]
  have h1 : h2.1 = hh_487.1 := by rw [← eg]; exact m.2.1.2.2.2
  have hA : lPA A c h2 := by rw [← eg]; exact (m.pa z.1.1).gd
  have B : cI A ≠ 0 → bgM A s h2 := fun ne => by rw [← eg]; exact (z.bm m ne).gd
  have er : h2.2.2.2.1 = h.2.2.2.1 := by rw [← eg]; rfl
  have q15 : h2.2.2.2.1 196 15 = some 199 := by rw [er]; exact m.r15
  have q17 : h2.2.2.2.1 196 17 = some 201 := by rw [er]; exact m.mw.2.1
  have z196 : zsh h2 196 = some (12, 39) := zsh_by h1 (by decide +kernel)
  have z199 : zsh h2 199 = some (14, 363) := zsh_by h1 (by decide +kernel)
  have z201 : zsh h2 201 = some (14, 76) := zsh_by h1 (by decide +kernel)
  have M : nMo A s 201 0 h2 := (z.lm m).1.1.fr (fun k => e2 _ _ (by decide))
  have hT := z.1.2.1
  have hB := z.1.2.2
  have hI := z.1.1.1
  have hN := z.2.1.1
  have k0 : (0 : Int32).toInt = 0 := by decide
  obtain ⟨b1, b2, b3, b4, b5⟩ := hI.2.2.1
  have rm : h2.2.2.2.1 196 35 = some 210 ∧ h2.2.2.2.1 196 36 = some 211 ∧ h2.2.2.2.1 196 37 = some 212 := by rw [er]; exact ⟨m.2.1.1.2.2.1 196 35 210 (by decide +kernel), m.2.1.1.2.2.1 196 36 211 (by decide +kernel), m.2.1.1.2.2.1 196 37 212 (by decide +kernel)⟩
  have no : ¬ ((0 ≤ x.toInt ∧ x.toInt < (cI A : Int)) ∧ 0 ≤ y.toInt ∧ y.toInt < (cI A : Int)) → ∀ N, zPn N none d mX12_roundAt (28, [(0, .inr (.inr (some 196))), (1, .inl x), (2, .inl y)], [], h2) (fun v _ => v = some (.inl (raV A s x y))) := fun q N => by
    refine pa_aload_n (pc' := 29) dX12_roundAt_28 rfl rfl ?_
    refine pa_iconst (v := nI 1) (pc' := 30) dX12_roundAt_29 (by decide) rfl ?_
    refine pa_callv (pc' := 33) (vs := [.inl (nI 1)]) (rest := []) dX12_roundAt_30 ml_12_170 (by decide) rfl rfl rfl (fun d' _ => (m_no z196)) (fun v g hq => ?_)
    obtain ⟨ev, eh⟩ := hq
    subst ev
    show zPn N none d mX12_roundAt (33, _, [.inl ((-1))], g) _
    refine pa_iret dX12_roundAt_33 rfl rfl ?_
    unfold raV
    rw [if_neg q]
  show zPn N none d mX12_roundAt (0, [(0, .inr (.inr (some 196))), (1, .inl x), (2, .inl y)], [], h) _
  refine pa_aload_n (pc' := 1) dX12_roundAt_0 rfl rfl ?_
  refine pa_callv (pc' := 4) (vs := []) (rest := []) dX12_roundAt_1 ml_12_167 (by decide) rfl rfl rfl (fun d' _ => (m_good s196)) (fun v h3 hq => ?_)
  obtain ⟨ev, eh⟩ := hq
  subst ev
  show zPn N none d mX12_roundAt (4, _, [], h3) _
  rw [eg] at eh
  subst eh
  refine pa_aload_n (pc' := 5) dX12_roundAt_4 rfl rfl ?_
  refine pa_iload_n (pc' := 6) dX12_roundAt_5 rfl rfl ?_
  refine pa_callv (pc' := 9) (vs := [.inl x]) (rest := []) dX12_roundAt_6 ml_12_277 (by decide) rfl rfl rfl (fun d' _ => (N_isI12 hA q15 h1)) (fun v g9 hq => ?_)
  obtain ⟨ev, eh⟩ := hq
  subst ev
  rw [eh]
  show zPn N none d mX12_roundAt (9, _, [.inl (if 0 ≤ (x).toInt ∧ (x).toInt < (cI A:Int) then 1 else 0)], h3) _
  by_cases hx : 0 ≤ x.toInt ∧ x.toInt < (cI A : Int)
  case neg =>
    rw [if_neg hx]
    refine pa_if_t (pc' := 28) dX12_roundAt_9 (by decide) (by decide) ?_
    exact no (fun q => hx q.1) _
  rw [if_pos hx]
  have B := B (show cI A ≠ 0 by omega)
  have e4 := B.2.1.2.2.2.2.1.1
  refine pa_if_f (pc' := 12) dX12_roundAt_9 (by decide) (by decide) rfl ?_
  refine pa_iload_n (pc' := 13) dX12_roundAt_12 rfl rfl ?_
  refine pa_iconst (v := nI 0) (pc' := 14) dX12_roundAt_13 (by decide) rfl ?_
  refine pa_aload_n (pc' := 15) dX12_roundAt_14 rfl rfl ?_
  refine pa_getR (pc' := 18) (n := 39) (r := 199) dX12_roundAt_15 fl_12_20 z196 (by decide) q15 rfl ?_
  refine pa_iconst (v := nI 4) (pc' := 19) dX12_roundAt_18 (by decide) rfl ?_
  refine pa_iald (pc' := 20) dX12_roundAt_19 z199 rfl (fun _ => ?_)
  rw [nI_clamp (by omega), e4]
  refine pa_iconst (v := nI 1) (pc' := 21) dX12_roundAt_20 (by decide) rfl ?_
  refine pa_isub (pc' := 22) (v := nI ((cI A) - 1)) dX12_roundAt_21 (nI_sub (by omega)) rfl ?_
  refine pa_calls (pc' := 25) (kd := 1) (vs := [.inl y, .inl (nI 0), .inl (nI ((cI A) - 1))]) (rest := []) dX12_roundAt_22 ml_12_149 (.inl rfl) rfl rfl rfl (fun d' _ => in_v) (fun v g9 hq => ?_)
  obtain ⟨ev, eh⟩ := hq
  subst ev
  rw [eh]
  show zPn N none d mX12_roundAt (25, _, [.inl (if ((nI 0)).toInt ≤ (y).toInt ∧ (y).toInt ≤ ((nI ((cI A) - 1))).toInt then 1 else 0)], h3) _
  rw [nI_toInt (n := 0) (by decide), nI_toInt (n := cI A - 1) (by omega)]
  by_cases hy : ((0 : Nat) : Int) ≤ y.toInt ∧ y.toInt ≤ ((cI A - 1 : Nat) : Int)
  case neg =>
    rw [if_neg hy]
    refine pa_if_f (pc' := 28) dX12_roundAt_25 (by decide) (by decide) rfl ?_
    exact no (fun q => hy (by omega)) _
  rw [if_pos hy]
  have hy2 : 0 ≤ y.toInt ∧ y.toInt < (cI A : Int) := by omega
  obtain ⟨i, rfl, hi2, ei⟩ := nI_ob hx.1 hx.2
  obtain ⟨k, rfl, hk2, ek⟩ := nI_ob hy2.1 hy2.2
  have V : raV A s (nI i) (nI k) = if roT A s i < 1000000 then nI (roO A s i k) else -1 := by
    unfold raV
    rw [if_pos ⟨hx, hy2⟩, ei, ek]
  rw [V]
  clear no
  refine pa_if_t (pc' := 34) dX12_roundAt_25 (by decide) (by decide) ?_
  refine pa_aload_n (pc' := 35) dX12_roundAt_34 rfl rfl ?_
  refine pa_iload_n (pc' := 36) dX12_roundAt_35 rfl rfl ?_
  refine pa_callv (pc' := 39) (vs := [.inl (nI i)]) (rest := []) dX12_roundAt_36 ml_12_419 (by decide) rfl rfl rfl (fun d' _ => M_seekR (d := d') B rm.1 rm.2.1 rm.2.2 hi2) (fun v g9 hq => ?_)
  obtain ⟨f1, f2, hq⟩ := hq
  have w196 : zsh g9 196 = some (12, 39) := zsh_by (f1.trans h1) (by decide +kernel)
  rcases hq with ⟨lt, ev, eo⟩ | ⟨lt, ev⟩
  · subst ev
    have w212 : zsh g9 212 = some (14, 7) := zsh_by (f1.trans h1) (by decide +kernel)
    have q37 : g9.2.2.2.1 196 37 = some 212 := by rw [f2]; exact rm.2.2
    have eo : g9.2.1 212 k = nI (roO A s i k) := eo k hk2
    have cl : roT A s i ≤ 1000000 := Nat.le_of_lt lt
    rw [if_pos (show roT A s i < 1000000 from lt)]
    show zPn N none d mX12_roundAt (39, _, [.inl (nI (roT A s i))], g9) _
    refine pa_if_t (pc' := 51) dX12_roundAt_39 (zk_lt_ge (b := false) (zlR (by omega))) (by decide) ?_
    refine pa_aload_n (pc' := 52) dX12_roundAt_51 rfl rfl ?_
    refine pa_getR (pc' := 55) (n := 39) (r := 212) dX12_roundAt_52 fl_12_59 w196 (by decide) q37 rfl ?_
    refine pa_iload_n (pc' := 56) dX12_roundAt_55 rfl rfl ?_
    refine pa_iald (pc' := 57) dX12_roundAt_56 w212 rfl (fun _ => ?_)
    rw [nI_clamp (by omega), eo]
    refine pa_iret dX12_roundAt_57 rfl rfl ?_
    rfl
  · subst ev
    rw [if_neg (show ¬ roT A s i < 1000000 from lt)]
    show zPn N none d mX12_roundAt (39, _, [.inl (-2)], g9) _
    refine pa_if_f (pc' := 42) dX12_roundAt_39 (show zcond .ge (-2 : Int32) 0 = false by decide) (by decide) rfl ?_
    refine pa_aload_n (pc' := 43) dX12_roundAt_42 rfl rfl ?_
    refine pa_bipush (v := nI 6) (pc' := 45) dX12_roundAt_43 (by decide) rfl ?_
    refine pa_callv (pc' := 48) (vs := [.inl (nI 6)]) (rest := []) dX12_roundAt_45 ml_12_170 (by decide) rfl rfl rfl (fun d' _ => (m_no w196)) (fun v g8 hq => ?_)
    obtain ⟨ev, eh⟩ := hq
    subst ev
    show zPn N none d mX12_roundAt (48, _, [.inl ((-1))], g8) _
    refine pa_goto (pc' := 57) dX12_roundAt_48 (by decide) ?_
    refine pa_iret dX12_roundAt_57 rfl rfl ?_
    rfl
end AN20
