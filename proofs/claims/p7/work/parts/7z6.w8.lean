/-! answers: whale, box, sung -/
theorem nI_ob {x : Int32} {n : Nat} (h0 : 0 ≤ x.toInt) (h1 : x.toInt < (n : Int)) : ∃ w : Nat, x = nI w ∧ w < n ∧ x.toInt.toNat = w := ⟨x.toInt.toNat, x_nI h0, by omega, rfl⟩
def whF (A : pA) (s : nS) (w : Nat) : Nat → Int32
  | 0 => kdA A w
  | 1 => nI (s.2.2.1 w)
  | 2 => nI (s.2.2.2.1 w)
  | 3 => nI (nu A (109 + 4 * w))
  | _ => nI (nu A (110 + 4 * w))
def whV (A : pA) (s : nS) (x y : Int32) : Int32 := if (0 ≤ x.toInt ∧ x.toInt < (cH A : Int)) ∧ 0 ≤ y.toInt ∧ y.toInt < 5 then whF A s x.toInt.toNat y.toInt.toNat else -1
def boF (A : pA) (s : nS) (b : Nat) : Nat → Int32
  | 0 => nI (nu A (127 + 4 * b))
  | 1 => nI (nu A (128 + 4 * b))
  | 2 => nI (nu A (129 + 4 * b))
  | 3 => nI (nu A (130 + 4 * b))
  | 4 => sDy (s.2.2.2.2.1 b)
  | _ => sGo (s.2.2.2.2.1 b)
def boV (A : pA) (s : nS) (x y : Int32) : Int32 := if (0 ≤ x.toInt ∧ x.toInt < (cB A : Int)) ∧ 0 ≤ y.toInt ∧ y.toInt < 6 then boF A s x.toInt.toNat y.toInt.toNat else -1
def suV (A : pA) (s : nS) (x y : Int32) : Int32 := if (0 ≤ x.toInt ∧ x.toInt < (cB A : Int)) ∧ 0 ≤ y.toInt ∧ y.toInt < (lB A x.toInt.toNat : Int) then nI (dg ((s.2.2.2.2.2 x.toInt.toNat).getD y.toInt.toNat 0)) else -1
section AN1
variable {t d N c w b : Nat} {h g : zH} {A : pA} {s : nS} {H J : List nS} {x y : Int32} {kk : Bool} {im : Int32}
theorem lPA.hasH (hA : lPA A c h) (hw : w < cH A) : cI A ≠ 0 := by
  rcases hA.2.2.2.2 with ⟨-, e⟩ | ⟨-, z, -⟩
  · rw [e] at hw
    exact absurd hw (Nat.not_lt_zero w)
  · exact z
theorem in_v {x lo hi : Int32} : zPa d mX12_in [.inl x, .inl lo, .inl hi] h (fun v g => v = some (.inl (if lo.toInt ≤ x.toInt ∧ x.toInt ≤ hi.toInt then 1 else 0)) ∧ g = h) := in_ex2.mono (fun v g hq => by
  obtain ⟨e, hq⟩ := hq
  rcases hq with ⟨ev, a, b⟩ | ⟨ev, a⟩
  · rw [if_pos ⟨Int32.le_iff_toInt_le.mp a, Int32.le_iff_toInt_le.mp b⟩]
    exact ⟨ev, e⟩
  · rw [if_neg (fun q => a ⟨Int32.le_iff_toInt_le.mpr q.1, Int32.le_iff_toInt_le.mpr q.2⟩)]
    exact ⟨ev, e⟩)
theorem N_whale11 (z : lZ A c s H J h) (hi : lInv t h) : zPa d mX11_whale [.inr (.inr (some 0)), .inl x, .inl y] h (fun v _ => v = some (.inl (whV A s x y))) := by
  intro N
  have h1 := hi.2.2.2.2.1
  have hA := z.1.1
  have hT := z.1.2.1
  have hB := z.1.2.2
  have hI := hA.1
  have hN := z.2.1.1
  have K := hA.2.2.2.1
  have hc2 : c = 2 ∨ c = 42 := hA.2.1
  obtain ⟨b1, b2, b3, b4, b5⟩ := hI.2.2.1
  have s0 : zsh h 0 = some (11, 16) := zsh_by h1 (by decide +kernel)
  obtain ⟨sc, sc1, sc2, sc4, sc5, scw, scb⟩ := cSh hA.2.1 h1
  obtain ⟨c9, c12, c13, cw, cb⟩ := cRf_of hi.1 hA.2.1
  have S := hi.nw
  obtain ⟨⟨s86, s87, s88, s89, s90, s91⟩, r87, r88, r89, r90, r91⟩ := S.o86
  have r3 := hA.2.2.1
  have r6 := S.2.1
  obtain ⟨n1, n2, n3, n4⟩ := z.2.2.1.1
  show zPn N none d mX11_whale (0, [(0, .inr (.inr (some 0))), (1, .inl x), (2, .inl y)], [], h) _
  refine pa_aload_n (pc' := 1) dX11_whale_0 rfl rfl ?_
  refine pa_iload_n (pc' := 2) dX11_whale_1 rfl rfl ?_
  refine pa_callv (pc' := 5) (vs := [.inl x]) (rest := []) dX11_whale_2 ml_11_121 (by decide) rfl rfl rfl (fun d' _ => (N_isWhale hA h1)) (fun v g9 hq => ?_)
  obtain ⟨ev, eh⟩ := hq
  subst ev
  rw [eh]
  show zPn N none d mX11_whale (5, _, [.inl (if 0 ≤ x.toInt ∧ x.toInt < (cH A:Int) then 1 else 0)], h) _
  by_cases hx : 0 ≤ x.toInt ∧ x.toInt < (cH A : Int)
  case neg =>
    rw [if_neg hx]
    refine pa_if_f (pc' := 8) dX11_whale_5 (by decide) (by decide) rfl ?_
    refine pa_aload_n (pc' := 9) dX11_whale_8 rfl rfl ?_
    refine pa_iconst (v := nI 1) (pc' := 10) dX11_whale_9 (by decide) rfl ?_
    refine pa_callv (pc' := 13) (vs := [.inl (nI 1)]) (rest := []) dX11_whale_10 ml_11_98 (by decide) rfl rfl rfl (fun d' _ => (c_ref s0)) (fun v g hq => ?_)
    obtain ⟨ev, eh⟩ := hq
    subst ev
    show zPn N none d mX11_whale (13, _, [.inl ((-1))], g) _
    refine pa_iret dX11_whale_13 rfl rfl ?_
    unfold whV
    rw [if_neg (fun q => hx q.1)]
  obtain ⟨w, rfl, hw, ew⟩ := nI_ob hx.1 hx.2
  rw [if_pos hx]
  refine pa_if_t (pc' := 14) dX11_whale_5 (by decide) (by decide) ?_
  refine pa_iload_n (pc' := 15) dX11_whale_14 rfl rfl ?_
  by_cases hy : 0 ≤ y.toInt ∧ y.toInt < 5
  case neg =>
    refine pa_switch (pc' := 127) dX11_whale_15 (fun _ => rfl) (fun q => absurd (show y.toInt < 0 ∨ 4 < y.toInt by omega) q) ?_
    refine pa_aload_n (pc' := 128) dX11_whale_127 rfl rfl ?_
    refine pa_iconst (v := nI 1) (pc' := 129) dX11_whale_128 (by decide) rfl ?_
    refine pa_callv (pc' := 132) (vs := [.inl (nI 1)]) (rest := []) dX11_whale_129 ml_11_98 (by decide) rfl rfl rfl (fun d' _ => (c_ref s0)) (fun v g hq => ?_)
    obtain ⟨ev, eh⟩ := hq
    subst ev
    show zPn N none d mX11_whale (132, _, [.inl ((-1))], g) _
    refine pa_iret dX11_whale_132 rfl rfl ?_
    unfold whV
    rw [if_neg (fun q => hy q.2)]
  obtain ⟨q, rfl, hq, eq⟩ := nI_ob (n := 5) hy.1 hy.2
  have V : whV A s (nI w) (nI q) = whF A s w q := by
    unfold whV
    rw [if_pos ⟨hx, hy⟩, ew, eq]
  rw [V]
  clear V eq
  have hq : q = 0 ∨ q = 1 ∨ q = 2 ∨ q = 3 ∨ q = 4 := by omega
  rcases hq with rfl | rfl | rfl | rfl | rfl
  · refine pa_switch (pc' := 48) dX11_whale_15 (fun e => absurd e (by decide)) (fun _ => ⟨33, by decide, rfl⟩) ?_
    have sw := scw w (by omega)
    have rw_ := cw w (by omega)
    have q : h.2.1 (c + 19 + w) 0 = kdA A w := K.wh (j := 0) hT hI hw (by decide)
    refine pa_aload_n (pc' := 49) dX11_whale_48 rfl rfl ?_
    refine pa_aload_n (pc' := 50) dX11_whale_49 rfl rfl ?_
    refine pa_getR (pc' := 53) (n := 16) (r := c) dX11_whale_50 fl_11_23 s0 (by decide) r3 rfl ?_
    refine pa_getR (pc' := 56) (n := 15) (r := c + 4) dX11_whale_53 fl_11_125 sc (by decide) c12 rfl ?_
    refine pa_iload_n (pc' := 57) dX11_whale_56 rfl rfl ?_
    refine pa_aald (pc' := 58) (r := c + 19 + w) dX11_whale_57 sc4 (by decide) (zn_in (by omega) (by omega)) (by rw [nI_clamp (by omega)]; exact rw_) rfl ?_
    refine pa_getI (pc' := 61) (n := 4) (v := kdA A w) dX11_whale_58 fl_11_129 sw (by decide) q rfl ?_
    refine pa_callv (pc' := 64) (vs := [.inl (kdA A w)]) (rest := []) dX11_whale_61 ml_11_112 (by decide) rfl rfl rfl (fun d' _ => (c_gra s0)) (fun v g hq => ?_)
    obtain ⟨ev, eh⟩ := hq
    subst ev
    show zPn N none d mX11_whale (64, _, [.inl ((kdA A w))], g) _
    refine pa_iret dX11_whale_64 rfl rfl ?_
    rfl
  · refine pa_switch (pc' := 65) dX11_whale_15 (fun e => absurd e (by decide)) (fun _ => ⟨50, by decide, rfl⟩) ?_
    have q : h.2.1 87 w = nI (s.2.2.1 w) := (n3 w hw).1
    refine pa_aload_n (pc' := 66) dX11_whale_65 rfl rfl ?_
    refine pa_aload_n (pc' := 67) dX11_whale_66 rfl rfl ?_
    refine pa_getR (pc' := 70) (n := 16) (r := 86) dX11_whale_67 fl_11_42 s0 (by decide) r6 rfl ?_
    refine pa_getR (pc' := 73) (n := 7) (r := 87) dX11_whale_70 fl_11_134 s86 (by decide) r87 rfl ?_
    refine pa_iload_n (pc' := 74) dX11_whale_73 rfl rfl ?_
    refine pa_iald (pc' := 75) dX11_whale_74 s87 rfl (fun _ => ?_)
    rw [nI_clamp (by omega), q]
    refine pa_callv (pc' := 78) (vs := [.inl (nI (s.2.2.1 w))]) (rest := []) dX11_whale_75 ml_11_112 (by decide) rfl rfl rfl (fun d' _ => (c_gra s0)) (fun v g hq => ?_)
    obtain ⟨ev, eh⟩ := hq
    subst ev
    show zPn N none d mX11_whale (78, _, [.inl (nI ((s.2.2.1 w)))], g) _
    refine pa_iret dX11_whale_78 rfl rfl ?_
    rfl
  · refine pa_switch (pc' := 79) dX11_whale_15 (fun e => absurd e (by decide)) (fun _ => ⟨64, by decide, rfl⟩) ?_
    have q : h.2.1 88 w = nI (s.2.2.2.1 w) := (n3 w hw).2
    refine pa_aload_n (pc' := 80) dX11_whale_79 rfl rfl ?_
    refine pa_aload_n (pc' := 81) dX11_whale_80 rfl rfl ?_
    refine pa_getR (pc' := 84) (n := 16) (r := 86) dX11_whale_81 fl_11_42 s0 (by decide) r6 rfl ?_
    refine pa_getR (pc' := 87) (n := 7) (r := 88) dX11_whale_84 fl_11_138 s86 (by decide) r88 rfl ?_
    refine pa_iload_n (pc' := 88) dX11_whale_87 rfl rfl ?_
    refine pa_iald (pc' := 89) dX11_whale_88 s88 rfl (fun _ => ?_)
    rw [nI_clamp (by omega), q]
    refine pa_callv (pc' := 92) (vs := [.inl (nI (s.2.2.2.1 w))]) (rest := []) dX11_whale_89 ml_11_112 (by decide) rfl rfl rfl (fun d' _ => (c_gra s0)) (fun v g hq => ?_)
    obtain ⟨ev, eh⟩ := hq
    subst ev
    show zPn N none d mX11_whale (92, _, [.inl (nI ((s.2.2.2.1 w)))], g) _
    refine pa_iret dX11_whale_92 rfl rfl ?_
    rfl
  · refine pa_switch (pc' := 93) dX11_whale_15 (fun e => absurd e (by decide)) (fun _ => ⟨78, by decide, rfl⟩) ?_
    have sw := scw w (by omega)
    have rw_ := cw w (by omega)
    have q : h.2.1 (c + 19 + w) 2 = nI (nu A (109 + 4 * w)) := by rw [K.wh hT hI hw (by decide), (num_whale hI hB hT hw).2.2.2.2 2 (by decide), show 107 + 4 * w + 2 = 109 + 4 * w by omega]
    refine pa_aload_n (pc' := 94) dX11_whale_93 rfl rfl ?_
    refine pa_aload_n (pc' := 95) dX11_whale_94 rfl rfl ?_
    refine pa_getR (pc' := 98) (n := 16) (r := c) dX11_whale_95 fl_11_23 s0 (by decide) r3 rfl ?_
    refine pa_getR (pc' := 101) (n := 15) (r := c + 4) dX11_whale_98 fl_11_125 sc (by decide) c12 rfl ?_
    refine pa_iload_n (pc' := 102) dX11_whale_101 rfl rfl ?_
    refine pa_aald (pc' := 103) (r := c + 19 + w) dX11_whale_102 sc4 (by decide) (zn_in (by omega) (by omega)) (by rw [nI_clamp (by omega)]; exact rw_) rfl ?_
    refine pa_getI (pc' := 106) (n := 4) (v := nI (nu A (109 + 4 * w))) dX11_whale_103 fl_11_141 sw (by decide) q rfl ?_
    refine pa_callv (pc' := 109) (vs := [.inl (nI (nu A (109 + 4 * w)))]) (rest := []) dX11_whale_106 ml_11_112 (by decide) rfl rfl rfl (fun d' _ => (c_gra s0)) (fun v g hq => ?_)
    obtain ⟨ev, eh⟩ := hq
    subst ev
    show zPn N none d mX11_whale (109, _, [.inl (nI ((nu A (109 + 4 * w))))], g) _
    refine pa_iret dX11_whale_109 rfl rfl ?_
    rfl
  · refine pa_switch (pc' := 110) dX11_whale_15 (fun e => absurd e (by decide)) (fun _ => ⟨95, by decide, rfl⟩) ?_
    have sw := scw w (by omega)
    have rw_ := cw w (by omega)
    have q : h.2.1 (c + 19 + w) 3 = nI (nu A (110 + 4 * w)) := by rw [K.wh hT hI hw (by decide), (num_whale hI hB hT hw).2.2.2.2 3 (by decide), show 107 + 4 * w + 3 = 110 + 4 * w by omega]
    refine pa_aload_n (pc' := 111) dX11_whale_110 rfl rfl ?_
    refine pa_aload_n (pc' := 112) dX11_whale_111 rfl rfl ?_
    refine pa_getR (pc' := 115) (n := 16) (r := c) dX11_whale_112 fl_11_23 s0 (by decide) r3 rfl ?_
    refine pa_getR (pc' := 118) (n := 15) (r := c + 4) dX11_whale_115 fl_11_125 sc (by decide) c12 rfl ?_
    refine pa_iload_n (pc' := 119) dX11_whale_118 rfl rfl ?_
    refine pa_aald (pc' := 120) (r := c + 19 + w) dX11_whale_119 sc4 (by decide) (zn_in (by omega) (by omega)) (by rw [nI_clamp (by omega)]; exact rw_) rfl ?_
    refine pa_getI (pc' := 123) (n := 4) (v := nI (nu A (110 + 4 * w))) dX11_whale_120 fl_11_144 sw (by decide) q rfl ?_
    refine pa_callv (pc' := 126) (vs := [.inl (nI (nu A (110 + 4 * w)))]) (rest := []) dX11_whale_123 ml_11_112 (by decide) rfl rfl rfl (fun d' _ => (c_gra s0)) (fun v g hq => ?_)
    obtain ⟨ev, eh⟩ := hq
    subst ev
    show zPn N none d mX11_whale (126, _, [.inl (nI ((nu A (110 + 4 * w))))], g) _
    refine pa_iret dX11_whale_126 rfl rfl ?_
    rfl
theorem N_box11 (z : lZ A c s H J h) (hi : lInv t h) : zPa d mX11_box [.inr (.inr (some 0)), .inl x, .inl y] h (fun v _ => v = some (.inl (boV A s x y))) := by
  intro N
  have h1 := hi.2.2.2.2.1
  have hA := z.1.1
  have hT := z.1.2.1
  have hB := z.1.2.2
  have hI := hA.1
  have hN := z.2.1.1
  have K := hA.2.2.2.1
  have hc2 : c = 2 ∨ c = 42 := hA.2.1
  obtain ⟨b1, b2, b3, b4, b5⟩ := hI.2.2.1
  have s0 : zsh h 0 = some (11, 16) := zsh_by h1 (by decide +kernel)
  obtain ⟨sc, sc1, sc2, sc4, sc5, scw, scb⟩ := cSh hA.2.1 h1
  obtain ⟨c9, c12, c13, cw, cb⟩ := cRf_of hi.1 hA.2.1
  have S := hi.nw
  obtain ⟨⟨s86, s87, s88, s89, s90, s91⟩, r87, r88, r89, r90, r91⟩ := S.o86
  have r3 := hA.2.2.1
  have r6 := S.2.1
  obtain ⟨n1, n2, n3, n4⟩ := z.2.2.1.1
  show zPn N none d mX11_box (0, [(0, .inr (.inr (some 0))), (1, .inl x), (2, .inl y)], [], h) _
  refine pa_aload_n (pc' := 1) dX11_box_0 rfl rfl ?_
  refine pa_iload_n (pc' := 2) dX11_box_1 rfl rfl ?_
  refine pa_callv (pc' := 5) (vs := [.inl x]) (rest := []) dX11_box_2 ml_11_147 (by decide) rfl rfl rfl (fun d' _ => (N_isBox hA h1)) (fun v g9 hq => ?_)
  obtain ⟨ev, eh⟩ := hq
  subst ev
  rw [eh]
  show zPn N none d mX11_box (5, _, [.inl (if 0 ≤ x.toInt ∧ x.toInt < (cB A:Int) then 1 else 0)], h) _
  by_cases hx : 0 ≤ x.toInt ∧ x.toInt < (cB A : Int)
  case neg =>
    rw [if_neg hx]
    refine pa_if_f (pc' := 8) dX11_box_5 (by decide) (by decide) rfl ?_
    refine pa_aload_n (pc' := 9) dX11_box_8 rfl rfl ?_
    refine pa_iconst (v := nI 1) (pc' := 10) dX11_box_9 (by decide) rfl ?_
    refine pa_callv (pc' := 13) (vs := [.inl (nI 1)]) (rest := []) dX11_box_10 ml_11_98 (by decide) rfl rfl rfl (fun d' _ => (c_ref s0)) (fun v g hq => ?_)
    obtain ⟨ev, eh⟩ := hq
    subst ev
    show zPn N none d mX11_box (13, _, [.inl ((-1))], g) _
    refine pa_iret dX11_box_13 rfl rfl ?_
    unfold boV
    rw [if_neg (fun q => hx q.1)]
  obtain ⟨w, rfl, hw, ew⟩ := nI_ob hx.1 hx.2
  rw [if_pos hx]
  refine pa_if_t (pc' := 14) dX11_box_5 (by decide) (by decide) ?_
  refine pa_iload_n (pc' := 15) dX11_box_14 rfl rfl ?_
  by_cases hy : 0 ≤ y.toInt ∧ y.toInt < 6
  case neg =>
    refine pa_switch (pc' := 148) dX11_box_15 (fun _ => rfl) (fun q => absurd (show y.toInt < 0 ∨ 5 < y.toInt by omega) q) ?_
    refine pa_aload_n (pc' := 149) dX11_box_148 rfl rfl ?_
    refine pa_iconst (v := nI 1) (pc' := 150) dX11_box_149 (by decide) rfl ?_
    refine pa_callv (pc' := 153) (vs := [.inl (nI 1)]) (rest := []) dX11_box_150 ml_11_98 (by decide) rfl rfl rfl (fun d' _ => (c_ref s0)) (fun v g hq => ?_)
    obtain ⟨ev, eh⟩ := hq
    subst ev
    show zPn N none d mX11_box (153, _, [.inl ((-1))], g) _
    refine pa_iret dX11_box_153 rfl rfl ?_
    unfold boV
    rw [if_neg (fun q => hy q.2)]
  obtain ⟨q, rfl, hq, eq⟩ := nI_ob (n := 6) hy.1 hy.2
  have V : boV A s (nI w) (nI q) = boF A s w q := by
    unfold boV
    rw [if_pos ⟨hx, hy⟩, ew, eq]
  rw [V]
  clear V eq
  have hq : q = 0 ∨ q = 1 ∨ q = 2 ∨ q = 3 ∨ q = 4 ∨ q = 5 := by omega
  rcases hq with rfl | rfl | rfl | rfl | rfl | rfl
  · refine pa_switch (pc' := 52) dX11_box_15 (fun e => absurd e (by decide)) (fun _ => ⟨37, by decide, rfl⟩) ?_
    have sb := scb w (by omega)
    have rb := cb w (by omega)
    have q : h.2.1 (c + 24 + w) 0 = nI (nu A (127 + 4 * w)) := by
      rw [K.bo hT hI hw (by decide), (num_box hI hB hT hw).2.2.2.2 0 (by decide)]
      exact congrArg (fun v => nI (nu A v)) (by omega)
    refine pa_aload_n (pc' := 53) dX11_box_52 rfl rfl ?_
    refine pa_aload_n (pc' := 54) dX11_box_53 rfl rfl ?_
    refine pa_getR (pc' := 57) (n := 16) (r := c) dX11_box_54 fl_11_23 s0 (by decide) r3 rfl ?_
    refine pa_getR (pc' := 60) (n := 15) (r := c + 5) dX11_box_57 fl_11_150 sc (by decide) c13 rfl ?_
    refine pa_iload_n (pc' := 61) dX11_box_60 rfl rfl ?_
    refine pa_aald (pc' := 62) (r := c + 24 + w) dX11_box_61 sc5 (by decide) (zn_in (by omega) (by omega)) (by rw [nI_clamp (by omega)]; exact rb) rfl ?_
    refine pa_getI (pc' := 65) (n := 4) (v := nI (nu A (127 + 4 * w))) dX11_box_62 fl_11_154 sb (by decide) q rfl ?_
    refine pa_callv (pc' := 68) (vs := [.inl (nI (nu A (127 + 4 * w)))]) (rest := []) dX11_box_65 ml_11_112 (by decide) rfl rfl rfl (fun d' _ => (c_gra s0)) (fun v g hq => ?_)
    obtain ⟨ev, eh⟩ := hq
    subst ev
    show zPn N none d mX11_box (68, _, [.inl (nI ((nu A (127 + 4 * w))))], g) _
    refine pa_iret dX11_box_68 rfl rfl ?_
    rfl
  · refine pa_switch (pc' := 69) dX11_box_15 (fun e => absurd e (by decide)) (fun _ => ⟨54, by decide, rfl⟩) ?_
    have sb := scb w (by omega)
    have rb := cb w (by omega)
    have q : h.2.1 (c + 24 + w) 1 = nI (nu A (128 + 4 * w)) := by
      rw [K.bo hT hI hw (by decide), (num_box hI hB hT hw).2.2.2.2 1 (by decide)]
      exact congrArg (fun v => nI (nu A v)) (by omega)
    refine pa_aload_n (pc' := 70) dX11_box_69 rfl rfl ?_
    refine pa_aload_n (pc' := 71) dX11_box_70 rfl rfl ?_
    refine pa_getR (pc' := 74) (n := 16) (r := c) dX11_box_71 fl_11_23 s0 (by decide) r3 rfl ?_
    refine pa_getR (pc' := 77) (n := 15) (r := c + 5) dX11_box_74 fl_11_150 sc (by decide) c13 rfl ?_
    refine pa_iload_n (pc' := 78) dX11_box_77 rfl rfl ?_
    refine pa_aald (pc' := 79) (r := c + 24 + w) dX11_box_78 sc5 (by decide) (zn_in (by omega) (by omega)) (by rw [nI_clamp (by omega)]; exact rb) rfl ?_
    refine pa_getI (pc' := 82) (n := 4) (v := nI (nu A (128 + 4 * w))) dX11_box_79 fl_11_159 sb (by decide) q rfl ?_
    refine pa_callv (pc' := 85) (vs := [.inl (nI (nu A (128 + 4 * w)))]) (rest := []) dX11_box_82 ml_11_112 (by decide) rfl rfl rfl (fun d' _ => (c_gra s0)) (fun v g hq => ?_)
    obtain ⟨ev, eh⟩ := hq
    subst ev
    show zPn N none d mX11_box (85, _, [.inl (nI ((nu A (128 + 4 * w))))], g) _
    refine pa_iret dX11_box_85 rfl rfl ?_
    rfl
  · refine pa_switch (pc' := 86) dX11_box_15 (fun e => absurd e (by decide)) (fun _ => ⟨71, by decide, rfl⟩) ?_
    have sb := scb w (by omega)
    have rb := cb w (by omega)
    have q : h.2.1 (c + 24 + w) 2 = nI (nu A (129 + 4 * w)) := by
      rw [K.bo hT hI hw (by decide), (num_box hI hB hT hw).2.2.2.2 2 (by decide)]
      exact congrArg (fun v => nI (nu A v)) (by omega)
    refine pa_aload_n (pc' := 87) dX11_box_86 rfl rfl ?_
    refine pa_aload_n (pc' := 88) dX11_box_87 rfl rfl ?_
    refine pa_getR (pc' := 91) (n := 16) (r := c) dX11_box_88 fl_11_23 s0 (by decide) r3 rfl ?_
    refine pa_getR (pc' := 94) (n := 15) (r := c + 5) dX11_box_91 fl_11_150 sc (by decide) c13 rfl ?_
    refine pa_iload_n (pc' := 95) dX11_box_94 rfl rfl ?_
    refine pa_aald (pc' := 96) (r := c + 24 + w) dX11_box_95 sc5 (by decide) (zn_in (by omega) (by omega)) (by rw [nI_clamp (by omega)]; exact rb) rfl ?_
    refine pa_getI (pc' := 99) (n := 4) (v := nI (nu A (129 + 4 * w))) dX11_box_96 fl_11_162 sb (by decide) q rfl ?_
    refine pa_callv (pc' := 102) (vs := [.inl (nI (nu A (129 + 4 * w)))]) (rest := []) dX11_box_99 ml_11_112 (by decide) rfl rfl rfl (fun d' _ => (c_gra s0)) (fun v g hq => ?_)
    obtain ⟨ev, eh⟩ := hq
    subst ev
    show zPn N none d mX11_box (102, _, [.inl (nI ((nu A (129 + 4 * w))))], g) _
    refine pa_iret dX11_box_102 rfl rfl ?_
    rfl
  · refine pa_switch (pc' := 103) dX11_box_15 (fun e => absurd e (by decide)) (fun _ => ⟨88, by decide, rfl⟩) ?_
    have sb := scb w (by omega)
    have rb := cb w (by omega)
    have q : h.2.1 (c + 24 + w) 3 = nI (nu A (130 + 4 * w)) := by
      rw [K.bo hT hI hw (by decide), (num_box hI hB hT hw).2.2.2.2 3 (by decide)]
      exact congrArg (fun v => nI (nu A v)) (by omega)
    refine pa_aload_n (pc' := 104) dX11_box_103 rfl rfl ?_
    refine pa_aload_n (pc' := 105) dX11_box_104 rfl rfl ?_
    refine pa_getR (pc' := 108) (n := 16) (r := c) dX11_box_105 fl_11_23 s0 (by decide) r3 rfl ?_
    refine pa_getR (pc' := 111) (n := 15) (r := c + 5) dX11_box_108 fl_11_150 sc (by decide) c13 rfl ?_
    refine pa_iload_n (pc' := 112) dX11_box_111 rfl rfl ?_
    refine pa_aald (pc' := 113) (r := c + 24 + w) dX11_box_112 sc5 (by decide) (zn_in (by omega) (by omega)) (by rw [nI_clamp (by omega)]; exact rb) rfl ?_
    refine pa_getI (pc' := 116) (n := 4) (v := nI (nu A (130 + 4 * w))) dX11_box_113 fl_11_165 sb (by decide) q rfl ?_
    refine pa_callv (pc' := 119) (vs := [.inl (nI (nu A (130 + 4 * w)))]) (rest := []) dX11_box_116 ml_11_112 (by decide) rfl rfl rfl (fun d' _ => (c_gra s0)) (fun v g hq => ?_)
    obtain ⟨ev, eh⟩ := hq
    subst ev
    show zPn N none d mX11_box (119, _, [.inl (nI ((nu A (130 + 4 * w))))], g) _
    refine pa_iret dX11_box_119 rfl rfl ?_
    rfl
  · refine pa_switch (pc' := 120) dX11_box_15 (fun e => absurd e (by decide)) (fun _ => ⟨105, by decide, rfl⟩) ?_
    have q : h.2.1 89 w = sDy (s.2.2.2.2.1 w) := (n4 w hw).1
    refine pa_aload_n (pc' := 121) dX11_box_120 rfl rfl ?_
    refine pa_aload_n (pc' := 122) dX11_box_121 rfl rfl ?_
    refine pa_getR (pc' := 125) (n := 16) (r := 86) dX11_box_122 fl_11_42 s0 (by decide) r6 rfl ?_
    refine pa_getR (pc' := 128) (n := 7) (r := 89) dX11_box_125 fl_11_168 s86 (by decide) r89 rfl ?_
    refine pa_iload_n (pc' := 129) dX11_box_128 rfl rfl ?_
    refine pa_iald (pc' := 130) dX11_box_129 s89 rfl (fun _ => ?_)
    rw [nI_clamp (by omega), q]
    refine pa_callv (pc' := 133) (vs := [.inl (sDy (s.2.2.2.2.1 w))]) (rest := []) dX11_box_130 ml_11_112 (by decide) rfl rfl rfl (fun d' _ => (c_gra s0)) (fun v g hq => ?_)
    obtain ⟨ev, eh⟩ := hq
    subst ev
    show zPn N none d mX11_box (133, _, [.inl ((sDy (s.2.2.2.2.1 w)))], g) _
    refine pa_iret dX11_box_133 rfl rfl ?_
    rfl
  · refine pa_switch (pc' := 134) dX11_box_15 (fun e => absurd e (by decide)) (fun _ => ⟨119, by decide, rfl⟩) ?_
    have q : h.2.1 90 w = sGo (s.2.2.2.2.1 w) := (n4 w hw).2.1
    refine pa_aload_n (pc' := 135) dX11_box_134 rfl rfl ?_
    refine pa_aload_n (pc' := 136) dX11_box_135 rfl rfl ?_
    refine pa_getR (pc' := 139) (n := 16) (r := 86) dX11_box_136 fl_11_42 s0 (by decide) r6 rfl ?_
    refine pa_getR (pc' := 142) (n := 7) (r := 90) dX11_box_139 fl_11_171 s86 (by decide) r90 rfl ?_
    refine pa_iload_n (pc' := 143) dX11_box_142 rfl rfl ?_
    refine pa_iald (pc' := 144) dX11_box_143 s90 rfl (fun _ => ?_)
    rw [nI_clamp (by omega), q]
    refine pa_callv (pc' := 147) (vs := [.inl (sGo (s.2.2.2.2.1 w))]) (rest := []) dX11_box_144 ml_11_112 (by decide) rfl rfl rfl (fun d' _ => (c_gra s0)) (fun v g hq => ?_)
    obtain ⟨ev, eh⟩ := hq
    subst ev
    show zPn N none d mX11_box (147, _, [.inl ((sGo (s.2.2.2.2.1 w)))], g) _
    refine pa_iret dX11_box_147 rfl rfl ?_
    rfl
theorem N_whale12 (z : lZ A c s H J g) (m : lMid kk im t g h) : zPa d mX12_whale [.inr (.inr (some 196)), .inl x, .inl y] h (fun v _ => v = some (.inl (whV A s x y))) := by
  intro N
  have s196 : zsh h 196 = some (12, 39) := zsh_by m.2.1.2.2.2 (by decide +kernel)
  generalize eg : zsI (zsI h 196 0 0) 196 11 0 = h2
  have e2 : ∀ a k, a ≠ 196 → h2.2.1 a k = h.2.1 a k := fun a k ha => by rw [← eg, zsI_no (by omega), zsI_no (by omega)]
  have e3 : ∀ k, k ≠ 0 → k ≠ 11 → h2.2.1 196 k = h.2.1 196 k := fun k w1 w2 => by rw [← eg, zsI_no (by omega), zsI_no (by omega)]
  have h1 : h2.1 = hh_487.1 := by rw [← eg]; exact m.2.1.2.2.2
  have hA : lPA A c h2 := by rw [← eg]; exact (m.pa z.1.1).gd
  have B : cI A ≠ 0 → bgM A s h2 := fun ne => by rw [← eg]; exact (z.bm m ne).gd
  have er : h2.2.2.2.1 = h.2.2.2.1 := by rw [← eg]; rfl
  have q15 : h2.2.2.2.1 196 15 = some 199 := by rw [er]; exact m.r15
  have q17 : h2.2.2.2.1 196 17 = some 201 := by rw [er]; exact m.mw.2.1
  have z196 : zsh h2 196 = some (12, 39) := zsh_by h1 (by decide +kernel)
  have z199 : zsh h2 199 = some (14, 363) := zsh_by h1 (by decide +kernel)
  have z201 : zsh h2 201 = some (14, 76) := zsh_by h1 (by decide +kernel)
  have M : nMo A s 201 0 h2 := (z.lm m).1.1.fr (fun k => e2 _ _ (by decide))
  have hT := z.1.2.1
  have hB := z.1.2.2
  have hI := z.1.1.1
  have hN := z.2.1.1
  have k0 : (0 : Int32).toInt = 0 := by decide
  obtain ⟨b1, b2, b3, b4, b5⟩ := hI.2.2.1
  show zPn N none d mX12_whale (0, [(0, .inr (.inr (some 196))), (1, .inl x), (2, .inl y)], [], h) _
  refine pa_aload_n (pc' := 1) dX12_whale_0 rfl rfl ?_
  refine pa_callv (pc' := 4) (vs := []) (rest := []) dX12_whale_1 ml_12_167 (by decide) rfl rfl rfl (fun d' _ => (m_good s196)) (fun v h3 hq => ?_)
  obtain ⟨ev, eh⟩ := hq
  subst ev
  show zPn N none d mX12_whale (4, _, [], h3) _
  rw [eg] at eh
  subst eh
  refine pa_aload_n (pc' := 5) dX12_whale_4 rfl rfl ?_
  refine pa_iload_n (pc' := 6) dX12_whale_5 rfl rfl ?_
  refine pa_callv (pc' := 9) (vs := [.inl x]) (rest := []) dX12_whale_6 ml_12_268 (by decide) rfl rfl rfl (fun d' _ => (M_isWhale hA q15 h1)) (fun v g9 hq => ?_)
  obtain ⟨ev, eh⟩ := hq
  subst ev
  rw [eh]
  show zPn N none d mX12_whale (9, _, [.inl (if 0 ≤ x.toInt ∧ x.toInt < (cH A:Int) then 1 else 0)], h3) _
  by_cases hx : 0 ≤ x.toInt ∧ x.toInt < (cH A : Int)
  case neg =>
    rw [if_neg hx]
    refine pa_if_t (pc' := 21) dX12_whale_9 (by decide) (by decide) ?_
    refine pa_aload_n (pc' := 22) dX12_whale_21 rfl rfl ?_
    refine pa_iconst (v := nI 1) (pc' := 23) dX12_whale_22 (by decide) rfl ?_
    refine pa_callv (pc' := 26) (vs := [.inl (nI 1)]) (rest := []) dX12_whale_23 ml_12_170 (by decide) rfl rfl rfl (fun d' _ => (m_no z196)) (fun v g hq => ?_)
    obtain ⟨ev, eh⟩ := hq
    subst ev
    show zPn N none d mX12_whale (26, _, [.inl ((-1))], g) _
    refine pa_iret dX12_whale_26 rfl rfl ?_
    unfold whV
    rw [if_neg (fun q => hx q.1)]
  obtain ⟨w, rfl, hw, ew⟩ := nI_ob hx.1 hx.2
  rw [if_pos hx]
  refine pa_if_f (pc' := 12) dX12_whale_9 (by decide) (by decide) rfl ?_
  refine pa_iload_n (pc' := 13) dX12_whale_12 rfl rfl ?_
  refine pa_iconst (v := 0) (pc' := 14) dX12_whale_13 (by decide) rfl ?_
  refine pa_iconst (v := 4) (pc' := 15) dX12_whale_14 (by decide) rfl ?_
  refine pa_calls (pc' := 18) (kd := 1) (vs := [.inl y, .inl 0, .inl 4]) (rest := []) dX12_whale_15 ml_12_149 (.inl rfl) rfl rfl rfl (fun d' _ => in_v) (fun v g9 hq => ?_)
  obtain ⟨ev, eh⟩ := hq
  subst ev
  rw [eh]
  show zPn N none d mX12_whale (18, _, [.inl (if ((0 : Int32)).toInt ≤ (y).toInt ∧ (y).toInt ≤ ((4 : Int32)).toInt then 1 else 0)], h3) _
  rw [k0, show (4 : Int32).toInt = 4 by decide]
  by_cases hy : 0 ≤ y.toInt ∧ y.toInt ≤ 4
  case neg =>
    rw [if_neg hy]
    refine pa_if_f (pc' := 21) dX12_whale_18 (by decide) (by decide) rfl ?_
    refine pa_aload_n (pc' := 22) dX12_whale_21 rfl rfl ?_
    refine pa_iconst (v := nI 1) (pc' := 23) dX12_whale_22 (by decide) rfl ?_
    refine pa_callv (pc' := 26) (vs := [.inl (nI 1)]) (rest := []) dX12_whale_23 ml_12_170 (by decide) rfl rfl rfl (fun d' _ => (m_no z196)) (fun v g hq => ?_)
    obtain ⟨ev, eh⟩ := hq
    subst ev
    show zPn N none d mX12_whale (26, _, [.inl ((-1))], g) _
    refine pa_iret dX12_whale_26 rfl rfl ?_
    unfold whV
    rw [if_neg (fun q => hy (by omega))]
  rw [if_pos hy]
  have hy : 0 ≤ y.toInt ∧ y.toInt < 5 := by omega
  refine pa_if_t (pc' := 27) dX12_whale_18 (by decide) (by decide) ?_
  obtain ⟨q, rfl, hq, eq⟩ := nI_ob (n := 5) hy.1 hy.2
  have V : whV A s (nI w) (nI q) = whF A s w q := by
    unfold whV
    rw [if_pos ⟨hx, hy⟩, ew, eq]
  rw [V]
  clear V eq
  have B := B (hA.hasH hw)
  refine pa_iload_n (pc' := 28) dX12_whale_27 rfl rfl ?_
  have hq : q = 0 ∨ q = 1 ∨ q = 2 ∨ q = 3 ∨ q = 4 := by omega
  rcases hq with rfl | rfl | rfl | rfl | rfl
  · refine pa_switch (pc' := 56) dX12_whale_28 (fun e => absurd e (by decide)) (fun _ => ⟨28, by decide, rfl⟩) ?_
    refine pa_aload_n (pc' := 57) dX12_whale_56 rfl rfl ?_
    refine pa_iload_n (pc' := 58) dX12_whale_57 rfl rfl ?_
    refine pa_iconst (v := nI 0) (pc' := 59) dX12_whale_58 (by decide) rfl ?_
    refine pa_callv (pc' := 62) (vs := [.inl (nI w), .inl (nI 0)]) (rest := []) dX12_whale_59 ml_12_271 (by decide) rfl rfl rfl (fun d' _ => (M_ofWhale B hw (by decide))) (fun v g9 hq => ?_)
    obtain ⟨ev, eh⟩ := hq
    subst ev
    rw [eh]
    show zPn N none d mX12_whale (62, _, [.inl (vA A (107 + 4 * w + 0))], h3) _
    refine pa_iret dX12_whale_62 rfl rfl ?_
    rfl
  · refine pa_switch (pc' := 63) dX12_whale_28 (fun e => absurd e (by decide)) (fun _ => ⟨35, by decide, rfl⟩) ?_
    have q : h3.2.1 201 (2 + w) = nI (s.2.2.1 w) := by rw [← (M.2.2.1 w hw).1, Nat.zero_add]
    refine pa_aload_n (pc' := 64) dX12_whale_63 rfl rfl ?_
    refine pa_getR (pc' := 67) (n := 39) (r := 201) dX12_whale_64 fl_12_26 z196 (by decide) q17 rfl ?_
    refine pa_iconst (v := nI 2) (pc' := 68) dX12_whale_67 (by decide) rfl ?_
    refine pa_iload_n (pc' := 69) dX12_whale_68 rfl rfl ?_
    refine pa_iadd (pc' := 70) (v := nI (2 + w)) dX12_whale_69 (nI_add _ _) rfl ?_
    refine pa_iald (pc' := 71) dX12_whale_70 z201 rfl (fun _ => ?_)
    rw [nI_clamp (by omega), q]
    refine pa_iret dX12_whale_71 rfl rfl ?_
    rfl
  · refine pa_switch (pc' := 72) dX12_whale_28 (fun e => absurd e (by decide)) (fun _ => ⟨44, by decide, rfl⟩) ?_
    have q : h3.2.1 201 (7 + w) = nI (s.2.2.2.1 w) := by rw [← (M.2.2.1 w hw).2, Nat.zero_add]
    refine pa_aload_n (pc' := 73) dX12_whale_72 rfl rfl ?_
    refine pa_getR (pc' := 76) (n := 39) (r := 201) dX12_whale_73 fl_12_26 z196 (by decide) q17 rfl ?_
    refine pa_bipush (v := nI 7) (pc' := 78) dX12_whale_76 (by decide) rfl ?_
    refine pa_iload_n (pc' := 79) dX12_whale_78 rfl rfl ?_
    refine pa_iadd (pc' := 80) (v := nI (7 + w)) dX12_whale_79 (nI_add _ _) rfl ?_
    refine pa_iald (pc' := 81) dX12_whale_80 z201 rfl (fun _ => ?_)
    rw [nI_clamp (by omega), q]
    refine pa_iret dX12_whale_81 rfl rfl ?_
    rfl
  · refine pa_switch (pc' := 82) dX12_whale_28 (fun _ => rfl) (fun e => absurd (by decide) e) ?_
    refine pa_aload_n (pc' := 83) dX12_whale_82 rfl rfl ?_
    refine pa_iload_n (pc' := 84) dX12_whale_83 rfl rfl ?_
    refine pa_iload_n (pc' := 85) dX12_whale_84 rfl rfl ?_
    refine pa_iconst (v := nI 1) (pc' := 86) dX12_whale_85 (by decide) rfl ?_
    refine pa_isub (pc' := 87) (v := nI (3 - 1)) dX12_whale_86 (nI_sub (by omega)) rfl ?_
    refine pa_callv (pc' := 90) (vs := [.inl (nI w), .inl (nI (3 - 1))]) (rest := []) dX12_whale_87 ml_12_271 (by decide) rfl rfl rfl (fun d' _ => (M_ofWhale (j := 2) B hw (by decide))) (fun v g9 hq => ?_)
    obtain ⟨ev, eh⟩ := hq
    subst ev
    rw [eh]
    show zPn N none d mX12_whale (90, _, [.inl (vA A (107 + 4 * w + 2))], h3) _
    refine pa_iret dX12_whale_90 rfl rfl ?_
    rw [(num_whale hI hB hT hw).2.2.2.2 2 (by decide), show 107 + 4 * w + 2 = 109 + 4 * w by omega]
    rfl
  · refine pa_switch (pc' := 82) dX12_whale_28 (fun _ => rfl) (fun e => absurd (by decide) e) ?_
    refine pa_aload_n (pc' := 83) dX12_whale_82 rfl rfl ?_
    refine pa_iload_n (pc' := 84) dX12_whale_83 rfl rfl ?_
    refine pa_iload_n (pc' := 85) dX12_whale_84 rfl rfl ?_
    refine pa_iconst (v := nI 1) (pc' := 86) dX12_whale_85 (by decide) rfl ?_
    refine pa_isub (pc' := 87) (v := nI (4 - 1)) dX12_whale_86 (nI_sub (by omega)) rfl ?_
    refine pa_callv (pc' := 90) (vs := [.inl (nI w), .inl (nI (4 - 1))]) (rest := []) dX12_whale_87 ml_12_271 (by decide) rfl rfl rfl (fun d' _ => (M_ofWhale (j := 3) B hw (by decide))) (fun v g9 hq => ?_)
    obtain ⟨ev, eh⟩ := hq
    subst ev
    rw [eh]
    show zPn N none d mX12_whale (90, _, [.inl (vA A (107 + 4 * w + 3))], h3) _
    refine pa_iret dX12_whale_90 rfl rfl ?_
    rw [(num_whale hI hB hT hw).2.2.2.2 3 (by decide), show 107 + 4 * w + 3 = 110 + 4 * w by omega]
    rfl
theorem N_box12 (z : lZ A c s H J g) (m : lMid kk im t g h) : zPa d mX12_box [.inr (.inr (some 196)), .inl x, .inl y] h (fun v _ => v = some (.inl (boV A s x y))) := by
  intro N
  have s196 : zsh h 196 = some (12, 39) := zsh_by m.2.1.2.2.2 (by decide +kernel)
  generalize eg : zsI (zsI h 196 0 0) 196 11 0 = h2
  have e2 : ∀ a k, a ≠ 196 → h2.2.1 a k = h.2.1 a k := fun a k ha => by rw [← eg, zsI_no (by omega), zsI_no (by omega)]
  have e3 : ∀ k, k ≠ 0 → k ≠ 11 → h2.2.1 196 k = h.2.1 196 k := fun k w1 w2 => by rw [← eg, zsI_no (by omega), zsI_no (by omega)]
  have h1 : h2.1 = hh_487.1 := by rw [← eg]; exact m.2.1.2.2.2
  have hA : lPA A c h2 := by rw [← eg]; exact (m.pa z.1.1).gd
  have B : cI A ≠ 0 → bgM A s h2 := fun ne => by rw [← eg]; exact (z.bm m ne).gd
  have er : h2.2.2.2.1 = h.2.2.2.1 := by rw [← eg]; rfl
  have q15 : h2.2.2.2.1 196 15 = some 199 := by rw [er]; exact m.r15
  have q17 : h2.2.2.2.1 196 17 = some 201 := by rw [er]; exact m.mw.2.1
  have z196 : zsh h2 196 = some (12, 39) := zsh_by h1 (by decide +kernel)
  have z199 : zsh h2 199 = some (14, 363) := zsh_by h1 (by decide +kernel)
  have z201 : zsh h2 201 = some (14, 76) := zsh_by h1 (by decide +kernel)
  have M : nMo A s 201 0 h2 := (z.lm m).1.1.fr (fun k => e2 _ _ (by decide))
  have hT := z.1.2.1
  have hB := z.1.2.2
  have hI := z.1.1.1
  have hN := z.2.1.1
  have k0 : (0 : Int32).toInt = 0 := by decide
  obtain ⟨b1, b2, b3, b4, b5⟩ := hI.2.2.1
  show zPn N none d mX12_box (0, [(0, .inr (.inr (some 196))), (1, .inl x), (2, .inl y)], [], h) _
  refine pa_aload_n (pc' := 1) dX12_box_0 rfl rfl ?_
  refine pa_callv (pc' := 4) (vs := []) (rest := []) dX12_box_1 ml_12_167 (by decide) rfl rfl rfl (fun d' _ => (m_good s196)) (fun v h3 hq => ?_)
  obtain ⟨ev, eh⟩ := hq
  subst ev
  show zPn N none d mX12_box (4, _, [], h3) _
  rw [eg] at eh
  subst eh
  refine pa_aload_n (pc' := 5) dX12_box_4 rfl rfl ?_
  refine pa_iload_n (pc' := 6) dX12_box_5 rfl rfl ?_
  refine pa_callv (pc' := 9) (vs := [.inl x]) (rest := []) dX12_box_6 ml_12_274 (by decide) rfl rfl rfl (fun d' _ => (M_isBox hA q15 h1)) (fun v g9 hq => ?_)
  obtain ⟨ev, eh⟩ := hq
  subst ev
  rw [eh]
  show zPn N none d mX12_box (9, _, [.inl (if 0 ≤ x.toInt ∧ x.toInt < (cB A:Int) then 1 else 0)], h3) _
  by_cases hx : 0 ≤ x.toInt ∧ x.toInt < (cB A : Int)
  case neg =>
    rw [if_neg hx]
    refine pa_if_t (pc' := 21) dX12_box_9 (by decide) (by decide) ?_
    refine pa_aload_n (pc' := 22) dX12_box_21 rfl rfl ?_
    refine pa_iconst (v := nI 1) (pc' := 23) dX12_box_22 (by decide) rfl ?_
    refine pa_callv (pc' := 26) (vs := [.inl (nI 1)]) (rest := []) dX12_box_23 ml_12_170 (by decide) rfl rfl rfl (fun d' _ => (m_no z196)) (fun v g hq => ?_)
    obtain ⟨ev, eh⟩ := hq
    subst ev
    show zPn N none d mX12_box (26, _, [.inl ((-1))], g) _
    refine pa_iret dX12_box_26 rfl rfl ?_
    unfold boV
    rw [if_neg (fun q => hx q.1)]
  obtain ⟨w, rfl, hw, ew⟩ := nI_ob hx.1 hx.2
  rw [if_pos hx]
  refine pa_if_f (pc' := 12) dX12_box_9 (by decide) (by decide) rfl ?_
  refine pa_iload_n (pc' := 13) dX12_box_12 rfl rfl ?_
  refine pa_iconst (v := 0) (pc' := 14) dX12_box_13 (by decide) rfl ?_
  refine pa_iconst (v := 5) (pc' := 15) dX12_box_14 (by decide) rfl ?_
  refine pa_calls (pc' := 18) (kd := 1) (vs := [.inl y, .inl 0, .inl 5]) (rest := []) dX12_box_15 ml_12_149 (.inl rfl) rfl rfl rfl (fun d' _ => in_v) (fun v g9 hq => ?_)
  obtain ⟨ev, eh⟩ := hq
  subst ev
  rw [eh]
  show zPn N none d mX12_box (18, _, [.inl (if ((0 : Int32)).toInt ≤ (y).toInt ∧ (y).toInt ≤ ((5 : Int32)).toInt then 1 else 0)], h3) _
  rw [k0, show (5 : Int32).toInt = 5 by decide]
  by_cases hy : 0 ≤ y.toInt ∧ y.toInt ≤ 5
  case neg =>
    rw [if_neg hy]
    refine pa_if_f (pc' := 21) dX12_box_18 (by decide) (by decide) rfl ?_
    refine pa_aload_n (pc' := 22) dX12_box_21 rfl rfl ?_
    refine pa_iconst (v := nI 1) (pc' := 23) dX12_box_22 (by decide) rfl ?_
    refine pa_callv (pc' := 26) (vs := [.inl (nI 1)]) (rest := []) dX12_box_23 ml_12_170 (by decide) rfl rfl rfl (fun d' _ => (m_no z196)) (fun v g hq => ?_)
    obtain ⟨ev, eh⟩ := hq
    subst ev
    show zPn N none d mX12_box (26, _, [.inl ((-1))], g) _
    refine pa_iret dX12_box_26 rfl rfl ?_
    unfold boV
    rw [if_neg (fun q => hy (by omega))]
  rw [if_pos hy]
  have hy : 0 ≤ y.toInt ∧ y.toInt < 6 := by omega
  refine pa_if_t (pc' := 27) dX12_box_18 (by decide) (by decide) ?_
  obtain ⟨q, rfl, hq, eq⟩ := nI_ob (n := 6) hy.1 hy.2
  have V : boV A s (nI w) (nI q) = boF A s w q := by
    unfold boV
    rw [if_pos ⟨hx, hy⟩, ew, eq]
  rw [V]
  clear V eq
  have B := B (hA.has hw)
  have d1 : h3.2.1 201 (12 + w) = tDy (s.2.2.2.2.1 w) := by rw [← (M.2.2.2 w hw).1, Nat.zero_add]
  have d2 : h3.2.1 201 (20 + w) = tGo (s.2.2.2.2.1 w) := by rw [← (M.2.2.2 w hw).2.1, Nat.zero_add]
  have oc := (hN.2.2 w hw).2.2
  refine pa_iload_n (pc' := 28) dX12_box_27 rfl rfl ?_
  refine pa_iconst (v := nI 4) (pc' := 29) dX12_box_28 (by decide) rfl ?_
  have fin : ∀ (v : Int32) (u : Option Nat) (N : Nat) (ls : zL), (match u with | some p => v = nI (p + 1) ∧ p ≤ 1000000 | none => v = 0) → zget ls 3 = some (.inl v) → zPn N none d mX12_box (66, ls, [], h3) (fun v' _ => v' = some (.inl (match u with | some p => nI p | none => -2))) := fun v u N ls hv l3 => by
    refine pa_iload_n (pc' := 67) dX12_box_66 l3 rfl ?_
    cases u with
    | none =>
      have hv : v = 0 := hv
      refine pa_if_f (pc' := 70) dX12_box_67 (decide_eq_false (not_not_intro hv)) (by decide) rfl ?_
      refine pa_bipush (v := (-2)) (pc' := 72) dX12_box_70 (by decide) rfl ?_
      refine pa_goto (pc' := 78) dX12_box_72 (by decide) ?_
      refine pa_iret dX12_box_78 rfl rfl ?_
      rfl
    | some p =>
      obtain ⟨hv, hp⟩ : v = nI (p + 1) ∧ p ≤ 1000000 := hv
      subst hv
      refine pa_if_t (pc' := 75) dX12_box_67 (decide_eq_true (fun q => by have := congrArg Int32.toInt q; rw [nI_toInt (by omega), k0] at this; omega)) (by decide) ?_
      refine pa_iload_n (pc' := 76) dX12_box_75 l3 rfl ?_
      refine pa_iconst (v := nI 1) (pc' := 77) dX12_box_76 (by decide) rfl ?_
      refine pa_isub (pc' := 78) (v := nI ((p + 1) - 1)) dX12_box_77 (nI_sub (by omega)) rfl ?_
      refine pa_iret dX12_box_78 rfl rfl ?_
      rw [Nat.add_sub_cancel]
  have hq : q < 4 ∨ q = 4 ∨ q = 5 := by omega
  rcases hq with hq4 | rfl | rfl
  · refine pa_icmp_f (pc' := 32) dX12_box_29 (zk_lt_ge (b := true) (zj_lt (by rw [nI_toInt (by omega), nI_toInt (by omega)]; omega))) (by decide) rfl ?_
    have e := (num_box hI hB hT hw).2.2.2.2 q hq4
    refine pa_aload_n (pc' := 33) dX12_box_32 rfl rfl ?_
    refine pa_iload_n (pc' := 34) dX12_box_33 rfl rfl ?_
    refine pa_iload_n (pc' := 35) dX12_box_34 rfl rfl ?_
    refine pa_callv (pc' := 38) (vs := [.inl (nI w), .inl (nI q)]) (rest := []) dX12_box_35 ml_12_262 (by decide) rfl rfl rfl (fun d' _ => (M_ofBox h1 q15 (by omega) hq4 ((B.2.2.2.2.2 w hw q hq4).trans e))) (fun v g9 hq => ?_)
    obtain ⟨ev, eh⟩ := hq
    subst ev
    rw [eh]
    show zPn N none d mX12_box (38, _, [.inl (nI (nu A (127 + 4 * w + q)))], h3) _
    refine pa_iret dX12_box_38 rfl rfl ?_
    have hq : q = 0 ∨ q = 1 ∨ q = 2 ∨ q = 3 := by omega
    rcases hq with rfl | rfl | rfl | rfl
    · rfl
    · show (some (Sum.inl (nI (nu A (127 + 4 * w + 1)))) : Option zV) = some (Sum.inl (nI (nu A (128 + 4 * w))))
      rw [show 127 + 4 * w + 1 = 128 + 4 * w by omega]
    · show (some (Sum.inl (nI (nu A (127 + 4 * w + 2)))) : Option zV) = some (Sum.inl (nI (nu A (129 + 4 * w))))
      rw [show 127 + 4 * w + 2 = 129 + 4 * w by omega]
    · show (some (Sum.inl (nI (nu A (127 + 4 * w + 3)))) : Option zV) = some (Sum.inl (nI (nu A (130 + 4 * w))))
      rw [show 127 + 4 * w + 3 = 130 + 4 * w by omega]
  · refine pa_icmp_t (pc' := 39) dX12_box_29 (by decide) (by decide) ?_
    refine pa_iload_n (pc' := 40) dX12_box_39 rfl rfl ?_
    refine pa_iconst (v := nI 4) (pc' := 41) dX12_box_40 (by decide) rfl ?_
    refine pa_icmp_f (pc' := 44) dX12_box_41 (by decide) (by decide) rfl ?_
    refine pa_aload_n (pc' := 45) dX12_box_44 rfl rfl ?_
    refine pa_getR (pc' := 48) (n := 39) (r := 201) dX12_box_45 fl_12_26 z196 (by decide) q17 rfl ?_
    refine pa_bipush (v := nI 12) (pc' := 50) dX12_box_48 (by decide) rfl ?_
    refine pa_iload_n (pc' := 51) dX12_box_50 rfl rfl ?_
    refine pa_iadd (pc' := 52) (v := nI (12 + w)) dX12_box_51 (nI_add _ _) rfl ?_
    refine pa_iald (pc' := 53) dX12_box_52 z201 rfl (fun _ => ?_)
    rw [nI_clamp (by omega), d1]
    refine pa_goto (pc' := 65) dX12_box_53 (by decide) ?_
    refine pa_istore_n (pc' := 66) dX12_box_65 (by decide) rfl rfl ?_
    refine (fin _ ((s.2.2.2.2.1 w).map (fun p => p.1)) _ _ ?_ rfl).mono (fun v h' e => ?_)
    · cases o : s.2.2.2.2.1 w with
      | none => rfl
      | some p =>
        have := (oc p o).2
        have nb := nSn_le s (cB A)
        exact ⟨rfl, (by omega : p.1 ≤ 1000000)⟩
    · rw [e]
      show _ = (some (Sum.inl (sDy (s.2.2.2.2.1 w))) : Option zV)
      cases s.2.2.2.2.1 w <;> rfl
  · refine pa_icmp_t (pc' := 39) dX12_box_29 (by decide) (by decide) ?_
    refine pa_iload_n (pc' := 40) dX12_box_39 rfl rfl ?_
    refine pa_iconst (v := nI 4) (pc' := 41) dX12_box_40 (by decide) rfl ?_
    refine pa_icmp_t (pc' := 56) dX12_box_41 (by decide) (by decide) ?_
    refine pa_aload_n (pc' := 57) dX12_box_56 rfl rfl ?_
    refine pa_getR (pc' := 60) (n := 39) (r := 201) dX12_box_57 fl_12_26 z196 (by decide) q17 rfl ?_
    refine pa_bipush (v := nI 20) (pc' := 62) dX12_box_60 (by decide) rfl ?_
    refine pa_iload_n (pc' := 63) dX12_box_62 rfl rfl ?_
    refine pa_iadd (pc' := 64) (v := nI (20 + w)) dX12_box_63 (nI_add _ _) rfl ?_
    refine pa_iald (pc' := 65) dX12_box_64 z201 rfl (fun _ => ?_)
    rw [nI_clamp (by omega), d2]
    refine pa_istore_n (pc' := 66) dX12_box_65 (by decide) rfl rfl ?_
    refine (fin _ ((s.2.2.2.2.1 w).map (fun p => p.2)) _ _ ?_ rfl).mono (fun v h' e => ?_)
    · cases o : s.2.2.2.2.1 w with
      | none => rfl
      | some p =>
        have := (oc p o).1
        exact ⟨rfl, (by omega : p.2 ≤ 1000000)⟩
    · rw [e]
      show _ = (some (Sum.inl (sGo (s.2.2.2.2.1 w))) : Option zV)
      cases s.2.2.2.2.1 w <;> rfl
end AN1
