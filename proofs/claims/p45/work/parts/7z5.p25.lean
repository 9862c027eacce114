/-! the reference: the loop of lines -/
section MDY
variable {R0 : Nat → Nat → Int32} {y : Nat → Int32} {n d N p q : Nat} {h h' g : zH} {A : pA} {nm : Nat → List Int32} {e : sF}
def sFin (y : Nat → Int32) (n f : Nat) (r : sR) : sF ⊕ pA := match r with
  | .inl e => .inl e
  | .inr (A, p) => if tT y n p = 0 then (if cI A = 0 then .inl (6, tS y n p) else .inr A) else if tT y n p = 59 then sText y n f A (tE y n p) else .inl (1, tS y n p)
theorem sText_fin {f : Nat} : sText y n (f + 1) A p = sFin y n f (sLine y n A p) := by
  show (match sLine y n A p with | .inl e => _ | .inr (A, p) => _) = _
  unfold sFin
  rfl
def lpS (R0 : Nat → Nat → Int32) (y : Nat → Int32) (n : Nat) (r : sR) (h : zH) : Prop := match r with
  | .inl e => mF R0 y n e h
  | .inr q => mS R0 y n q.1 q.1.2.1 q.2 h
theorem M_loop : ∀ (N f : Nat) (r : sR) (h : zH) (ls : zL), lpS R0 y n r h → (∀ q, r = .inr q → pI q.1 ∧ n < q.2 + f + 1) → zget ls 0 = some (.inr (.inr (some 196))) → zPn N none (d + 1) mX12_post (77, ls, [], h) (rtR R0 (sFin y n f r)) := by
  intro N
  induction N with
  | zero => intro f r h ls _ _ _; exact zPn.zero
  | succ N ih =>
    intro f r h ls K hr hl0
    match r, K, hr with
    | .inl e, K, hr =>
      have K : mF R0 y n e h := K
      have s196 := K.1.sh sh_196
      have hf := K.2.1
      refine pa_aload_n (pc' := 78) dX12_post_77 hl0 rfl ?_
      refine pa_getI (pc' := 81) (n := 39) dX12_post_78 fl_12_100 s196 (by decide) hf rfl ?_
      refine pa_if_t (pc' := 104) dX12_post_81 (by decide) (by decide) ?_
      refine pa_aload_n (pc' := 105) dX12_post_104 hl0 rfl ?_
      refine pa_getI (pc' := 108) (n := 39) dX12_post_105 fl_12_100 s196 (by decide) hf rfl ?_
      refine pa_if_t (pc' := 127) dX12_post_108 (by decide) (by decide) ?_
      refine pa_aload_n (pc' := 128) dX12_post_127 hl0 rfl ?_
      refine pa_getI (pc' := 131) (n := 39) dX12_post_128 fl_12_100 s196 (by decide) hf rfl ?_
      refine pa_if_t (pc' := 163) dX12_post_131 (by decide) (by decide) ?_
      exact M_fail K hl0
    | .inr (A, p), K, hr =>
      have K : mS R0 y n A A.2.1 p h := K
      obtain ⟨hI, hfu⟩ := hr (A, p) rfl
      dsimp only at hI hfu
      have hx := K.1.1
      have hp := K.1.2.1
      have s196 := hx.sh sh_196
      have s200 := hx.sh sh_200
      have r196_16 := hx.2.1 _ _ _ rf_196_16
      have hf := K.2.1
      have k4 := K.1.2.2.1
      have ht := K.1.2.2.2.2.1
      have wr : ∀ {k : Int32} {pc : Nat}, mF R0 y n (k, tS y n p) (wrg h k (tS y n p)) := fun {k pc} => wrg_mF hx
      show zPn (N + 1) none (d + 1) mX12_post (77, ls, [], h) (rtR R0 (if tT y n p = 0 then (if cI A = 0 then .inl (6, tS y n p) else .inr A) else if tT y n p = 59 then sText y n f A (tE y n p) else .inl (1, tS y n p)))
      refine pa_aload_n (pc' := 78) dX12_post_77 hl0 rfl ?_
      refine pa_getI (pc' := 81) (n := 39) dX12_post_78 fl_12_100 s196 (by decide) hf rfl ?_
      refine pa_if_f (pc' := 84) dX12_post_81 (by decide) (by decide) rfl ?_
      refine pa_aload_n (pc' := 85) dX12_post_84 hl0 rfl ?_
      refine pa_getI (pc' := 88) (n := 39) dX12_post_85 fl_12_90 s196 (by decide) ht rfl ?_
      refine pa_bipush (v := 59) (pc' := 90) dX12_post_88 (by decide) rfl ?_
      by_cases t0 : tT y n p = 0
      · rw [if_pos t0]
        refine pa_icmp_t (pc' := 104) dX12_post_90 (by rw [t0]; decide) (by decide) ?_
        refine pa_aload_n (pc' := 105) dX12_post_104 hl0 rfl ?_
        refine pa_getI (pc' := 108) (n := 39) dX12_post_105 fl_12_100 s196 (by decide) hf rfl ?_
        refine pa_if_f (pc' := 111) dX12_post_108 (by decide) (by decide) rfl ?_
        refine pa_aload_n (pc' := 112) dX12_post_111 hl0 rfl ?_
        refine pa_getI (pc' := 115) (n := 39) dX12_post_112 fl_12_90 s196 (by decide) ht rfl ?_
        refine pa_if_t (pc' := 127) dX12_post_115 (by rw [t0]; decide) (by decide) ?_
        refine pa_aload_n (pc' := 128) dX12_post_127 hl0 rfl ?_
        refine pa_getI (pc' := 131) (n := 39) dX12_post_128 fl_12_100 s196 (by decide) hf rfl ?_
        refine pa_if_f (pc' := 134) dX12_post_131 (by decide) (by decide) rfl ?_
        refine pa_aload_n (pc' := 135) dX12_post_134 hl0 rfl ?_
        refine pa_getR (pc' := 138) (n := 39) (r := 200) dX12_post_135 fl_12_23 s196 (by decide) r196_16 rfl ?_
        refine pa_bipush (v := nI 9) (pc' := 140) dX12_post_138 (by decide) rfl ?_
        refine pa_iald (pc' := 141) (n := 363) dX12_post_140 s200 rfl (fun _ => ?_)
        rw [nI_clamp (by omega), K.2.2.1.1]
        have w6 : cI A = 0 → zPn (N + 1) none (d + 1) mX12_post (153, ls, [], h) (rtR R0 (.inl (6, tS y n p))) := by
          intro i0
          refine pa_aload_n (pc' := 154) dX12_post_153 hl0 rfl ?_
          refine pa_bipush (v := 6) (pc' := 156) dX12_post_154 (by decide) rfl ?_
          refine pa_aload_n (pc' := 157) dX12_post_156 hl0 rfl ?_
          refine pa_getI (pc' := 160) (n := 39) dX12_post_157 fl_12_81 s196 (by decide) k4 rfl ?_
          refine pa_callv (pc' := 163) (vs := [.inl 6, .inl (nI (tS y n p))]) (rest := []) dX12_post_160 ml_12_127 (by decide) rfl rfl rfl (fun d' _ => m_wrong hx hf rfl) (fun v g2 hq => ?_)
          obtain ⟨er, hq⟩ := hq
          subst er; subst hq
          exact M_fail (wrg_mF hx) hl0
        by_cases h0 : A.1 = 0
        · have i0 := (hI.2.1 h0).1
          rw [if_pos h0, if_pos i0]
          exact pa_if_t (pc' := 153) dX12_post_141 (by decide) (by decide) (w6 i0)
        · rw [if_neg h0]
          refine pa_if_f (pc' := 144) dX12_post_141 (by decide) (by decide) rfl ?_
          refine pa_aload_n (pc' := 145) dX12_post_144 hl0 rfl ?_
          refine pa_getR (pc' := 148) (n := 39) (r := 200) dX12_post_145 fl_12_23 s196 (by decide) r196_16 rfl ?_
          refine pa_iconst (v := nI 4) (pc' := 149) dX12_post_148 (by decide) rfl ?_
          refine pa_iald (pc' := 150) (n := 363) dX12_post_149 s200 rfl (fun _ => ?_)
          rw [nI_clamp (by omega), K.2.2.1.2.2.1]
          by_cases i0 : cI A = 0
          · rw [if_pos i0]
            refine pa_if_f (pc' := 153) dX12_post_150 (by rw [i0]; decide) (by decide) rfl (w6 i0)
          · rw [if_neg i0]
            have bI := hI.2.2.1.1
            refine pa_if_t (pc' := 163) dX12_post_150 (decide_eq_true (fun z => i0 (by
              have := congrArg Int32.toInt z
              rw [nI_toInt (by omega), show (0 : Int32).toInt = 0 by decide] at this
              omega))) (by decide) ?_
            exact M_done hI K hl0
      · rw [if_neg t0]
        by_cases t59 : tT y n p = 59
        · rw [if_pos t59]
          have hb := t59_gt (y := y) hp t59
          refine pa_icmp_f (pc' := 93) dX12_post_90 (by rw [t59]; decide) (by decide) rfl ?_
          refine pa_aload_n (pc' := 94) dX12_post_93 hl0 rfl ?_
          refine pa_callv (pc' := 97) (vs := []) (rest := []) dX12_post_94 ml_12_121 (by decide) rfl rfl rfl (fun d' _ => m_next hx K.1.2.2.2.1 hb.2) (fun v g2 hq => ?_)
          obtain ⟨er, hq⟩ := hq
          subst er
          have K2 := K.nx hq hb.2
          show zPn (N + 1) none (d + 1) mX12_post (97, ls, [], g2) _
          refine pa_aload_n (pc' := 98) dX12_post_97 hl0 rfl ?_
          refine pa_callv (pc' := 101) (vs := []) (rest := []) dX12_post_98 ml_12_173 (by decide) rfl rfl rfl (fun d' _ => M_line hI K2) (fun v g3 hq => ?_)
          obtain ⟨er, hq⟩ := hq
          subst er
          show zPn (N + 1) none (d + 1) mX12_post (101, ls, [], g3) _
          refine pa_gotos (pc' := 77) dX12_post_101 (by decide) ?_
          obtain ⟨f', ef⟩ : ∃ f', f = f' + 1 := ⟨f - 1, by omega⟩
          subst ef
          rw [sText_fin]
          refine ih f' (sLine y n A (tE y n p)) g3 ls hq (fun q eq => ?_) hl0
          have ge := sLine_ge (A' := q.1) (q := q.2) hb.2 eq
          exact ⟨sLine_pI hI hb.2 eq, by omega⟩
        · rw [if_neg t59]
          refine pa_icmp_t (pc' := 104) dX12_post_90 (decide_eq_true t59) (by decide) ?_
          refine pa_aload_n (pc' := 105) dX12_post_104 hl0 rfl ?_
          refine pa_getI (pc' := 108) (n := 39) dX12_post_105 fl_12_100 s196 (by decide) hf rfl ?_
          refine pa_if_f (pc' := 111) dX12_post_108 (by decide) (by decide) rfl ?_
          refine pa_aload_n (pc' := 112) dX12_post_111 hl0 rfl ?_
          refine pa_getI (pc' := 115) (n := 39) dX12_post_112 fl_12_90 s196 (by decide) ht rfl ?_
          refine pa_if_f (pc' := 118) dX12_post_115 (decide_eq_false t0) (by decide) rfl ?_
          refine pa_aload_n (pc' := 119) dX12_post_118 hl0 rfl ?_
          refine pa_iconst (v := 1) (pc' := 120) dX12_post_119 (by decide) rfl ?_
          refine pa_aload_n (pc' := 121) dX12_post_120 hl0 rfl ?_
          refine pa_getI (pc' := 124) (n := 39) dX12_post_121 fl_12_81 s196 (by decide) k4 rfl ?_
          refine pa_callv (pc' := 127) (vs := [.inl 1, .inl (nI (tS y n p))]) (rest := []) dX12_post_124 ml_12_127 (by decide) rfl rfl rfl (fun d' _ => m_wrong hx hf rfl) (fun v g2 hq => ?_)
          obtain ⟨er, hq⟩ := hq
          subst er; subst hq
          have hF : mF R0 y n (1, tS y n p) (wrg h 1 (tS y n p)) := wrg_mF hx
          have s196 := hF.1.sh sh_196
          have hf := hF.2.1
          show zPn (N + 1) none (d + 1) mX12_post (127, ls, [], wrg h 1 (tS y n p)) _
          refine pa_aload_n (pc' := 128) dX12_post_127 hl0 rfl ?_
          refine pa_getI (pc' := 131) (n := 39) dX12_post_128 fl_12_100 s196 (by decide) hf rfl ?_
          refine pa_if_t (pc' := 163) dX12_post_131 (by decide) (by decide) ?_
          exact M_fail hF hl0
/-- the reference's post from the text on -/
theorem M_text (h1 : h.1 = hh_487.1) (h2 : ∀ a k b, wd.2.2.1 a k = some b → h.2.2.2.1 a k = some b) (hn : n ≤ 1000) (hy : ∀ k, k < n → TB (y k) (h.2.1 197 k)) : zPn N none (d + 1) mX12_post (27, [(0, .inr (.inr (some 196))), (1, .inl (nI n))], [], h) (rtR h.2.1 (sText y n (n + 1) pA0 0)) := by
  have zs : ∀ {g : zH} {a : Nat} {q : Option (Nat × Nat)}, g.1 = hh_487.1 → zsh hh_487 a = q → zsh g a = q := fun e1 e2 => by unfold zsh; rw [e1]; exact e2
  have s196 := zs h1 sh_196
  refine pa_aload_n (pc' := 28) dX12_post_27 rfl rfl ?_
  refine pa_iconst (v := 0) (pc' := 29) dX12_post_28 (by decide) rfl ?_
  refine pa_putI (pc' := 32) (n := 39) dX12_post_29 fl_12_104 s196 (Or.inl rfl) (Or.inl rfl) rfl ?_
  refine pa_aload_n (pc' := 33) dX12_post_32 rfl rfl ?_
  refine pa_iconst (v := 0) (pc' := 34) dX12_post_33 (by decide) rfl ?_
  refine pa_putI (pc' := 37) (n := 39) dX12_post_34 fl_12_100 s196 (Or.inl rfl) (Or.inr ⟨rfl, by decide⟩) rfl ?_
  refine pa_iconst (v := nI 0) (pc' := 38) dX12_post_37 (by decide) rfl ?_
  refine pa_istore_n (pc' := 39) dX12_post_38 (by decide) rfl rfl ?_
  let Z : zH := zsI (zsI h 196 9 0) 196 13 0
  have Z13 : Z.2.1 196 13 = 0 := zsI_eq
  have Z197 : ∀ k, Z.2.1 197 k = h.2.1 197 k := fun k => by
    show (zsI (zsI h 196 9 0) 196 13 0).2.1 197 k = _
    rw [zsI_no (by omega), zsI_no (by omega)]
  have lp : ∀ (N k : Nat) (g : zH) (ls : zL), k ≤ 363 → hBut 200 Z g → (∀ j, j < k → g.2.1 200 j = 0) → zget ls 0 = some (.inr (.inr (some 196))) → zget ls 1 = some (.inl (nI n)) → zget ls 2 = some (.inl (nI k)) → zPn N none (d + 1) mX12_post (39, ls, [], g) (rtR h.2.1 (sText y n (n + 1) pA0 0)) := by
    intro N
    induction N with
    | zero => intro k g ls _ _ _ _ _ _; exact zPn.zero
    | succ N ih =>
      intro k g ls hk hg hj hl0 hl1 hl2
      have s196 : zsh g 196 = some (12, 39) := hg.sh (zs h1 sh_196)
      have s200 : zsh g 200 = some (14, 363) := hg.sh (zs h1 sh_200)
      have g2 : ∀ a k b, wd.2.2.1 a k = some b → g.2.2.2.1 a k = some b := fun a k b hb => by rw [hg.2.1]; exact h2 a k b hb
      have r196_16 := g2 _ _ _ rf_196_16
      refine pa_iload_n (pc' := 40) dX12_post_39 hl2 rfl ?_
      refine pa_sipush (v := nI 363) (pc' := 43) dX12_post_40 (by decide) rfl ?_
      refine pa_icmp (pc' := 59) (pc2 := 46) dX12_post_43 (by decide) rfl (fun c => ?_) (fun c => ?_)
      · have c := zi_nlt (zk_ge_lt c)
        rw [nI_toInt (by omega), nI_toInt (by omega)] at c
        refine pa_aload_n (pc' := 60) dX12_post_59 hl0 rfl ?_
        refine pa_iload_n (pc' := 61) dX12_post_60 hl1 rfl ?_
        refine pa_putI (pc' := 64) (n := 39) dX12_post_61 fl_12_71 s196 (Or.inl rfl) (Or.inl rfl) rfl ?_
        refine pa_aload_n (pc' := 65) dX12_post_64 hl0 rfl ?_
        refine pa_iconst (v := nI 0) (pc' := 66) dX12_post_65 (by decide) rfl ?_
        refine pa_putI (pc' := 69) (n := 39) dX12_post_66 fl_12_74 s196 (Or.inl rfl) (Or.inl rfl) rfl ?_
        refine pa_aload_n (pc' := 70) dX12_post_69 hl0 rfl ?_
        have hx : mx h.2.1 y n (zsI (zsI g 196 3 (nI n)) 196 5 (nI 0)) := ⟨hg.1.trans h1, g2, by rw [zsI_no (by omega), zsI_eq], hn, fun j hj => by
          rw [zsI_no (by omega), zsI_no (by omega), hg.2.2 197 j (by decide), Z197]
          exact hy j hj, fun a j hk => by
          unfold mKp at hk
          rw [zsI_no (by omega), zsI_no (by omega), hg.2.2 a j (by omega)]
          show (zsI (zsI h 196 9 0) 196 13 0).2.1 a j = _
          rw [zsI_no (by omega), zsI_no (by omega)]⟩
        refine pa_callv (pc' := 73) (vs := []) (rest := []) dX12_post_70 ml_12_121 (by decide) rfl rfl rfl (fun d' _ => m_next hx zsI_eq (Nat.zero_le _)) (fun v g3 hq => ?_)
        obtain ⟨er, hq⟩ := hq
        subst er
        have c0 : ∀ j, j < 363 → g3.2.1 200 j = 0 := fun j hj3 => by
          rw [hq.2.2.1 200 j (by omega) (by omega), zsI_no (by omega), zsI_no (by omega)]
          exact hj j (by omega)
        have K : mS h.2.1 y n pA0 pA0.2.1 0 g3 := by
          refine ⟨hq.mT hx (Nat.zero_le _), ?_, ⟨?_, fun z => absurd rfl z, c0 4 (by decide), c0 5 (by decide), c0 6 (by decide), c0 7 (by decide), c0 8 (by decide), fun i hi => absurd hi (Nat.not_lt_zero i), fun i hi => absurd hi (Nat.not_lt_zero i), fun i hi => absurd hi (Nat.not_lt_zero i), fun j hj => absurd rfl hj⟩, fun i hi => ⟨c0 (183 + i) (by omega), fun j hj => absurd hj (Nat.not_lt_zero j)⟩⟩
          · rw [hq.2.2.1 196 13 (by omega) (by omega), zsI_no (by omega), zsI_no (by omega), hg.2.2 196 13 (by decide)]
            exact Z13
          · rw [if_pos (show pA0.1 = 0 from rfl)]
            exact c0 9 (by decide)
        show zPn (N + 1) none (d + 1) mX12_post (73, ls, [], g3) _
        refine pa_aload_n (pc' := 74) dX12_post_73 hl0 rfl ?_
        refine pa_callv (pc' := 77) (vs := []) (rest := []) dX12_post_74 ml_12_173 (by decide) rfl rfl rfl (fun d' _ => M_line pI_0 K) (fun v g4 hq => ?_)
        obtain ⟨er, hq⟩ := hq
        subst er
        show zPn (N + 1) none (d + 1) mX12_post (77, ls, [], g4) _
        rw [sText_fin]
        refine M_loop _ n (sLine y n pA0 0) g4 ls hq (fun q eq => ?_) hl0
        exact ⟨sLine_pI pI_0 (Nat.zero_le n) eq, by omega⟩
      · have c := zi_lt (zk_ge_lt c)
        rw [nI_toInt (by omega), nI_toInt (by omega)] at c
        refine pa_aload_n (pc' := 47) dX12_post_46 hl0 rfl ?_
        refine pa_getR (pc' := 50) (n := 39) (r := 200) dX12_post_47 fl_12_23 s196 (by decide) r196_16 rfl ?_
        refine pa_iload_n (pc' := 51) dX12_post_50 hl2 rfl ?_
        refine pa_iconst (v := 0) (pc' := 52) dX12_post_51 (by decide) rfl ?_
        refine pa_iast (pc' := 53) (n := 363) dX12_post_52 s200 rfl (fun _ => ?_)
        rw [nI_clamp (by omega)]
        refine pa_iinc (pc' := 56) (v := nI (k + 1)) dX12_post_53 hl2 (by decide) (nI_add k 1) rfl rfl ?_
        refine pa_gotos (pc' := 39) dX12_post_56 (by decide) ?_
        refine ih (k + 1) _ _ (by omega) hg.zs (fun j hj3 => ?_) (zget_s1 hl0 (by decide) (by simp [zcat])) (zget_s1 hl1 (by decide) (by simp [zcat])) zget_s1e
        by_cases ej : j = k
        · subst ej
          exact zsI_eq
        · rw [zsI_no (by omega)]
          exact hj j (by omega)
  exact lp N 0 _ _ (Nat.zero_le _) hBut.rf (fun j hj => absurd hj (Nat.not_lt_zero j)) rfl rfl rfl
end MDY
