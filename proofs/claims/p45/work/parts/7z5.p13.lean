/-! the reference: faults, words -/
def mT (R0 : Nat → Nat → Int32) (y : Nat → Int32) (n p : Nat) (h : zH) : Prop := mx R0 y n h ∧ p ≤ n ∧ h.2.1 196 4 = nI (tS y n p) ∧ h.2.1 196 5 = nI (tE y n p) ∧ h.2.1 196 6 = tT y n p ∧ (tT y n p = 2 → h.2.1 196 8 = nI (tE y n p - tS y n p) ∧ ∀ k, k < tE y n p - tS y n p → h.2.1 198 k = y (tS y n p + k)) ∧ (tT y n p = 3 → h.2.1 196 7 = tNum y n p)
/-- the reference's row beside what was told -/
def rmN (nm : Nat → List Int32) (h : zH) : Prop := ∀ i, i < 20 → h.2.1 200 (183 + i) = nI (nm i).length ∧ ∀ k, k < (nm i).length → h.2.1 200 (203 + 8 * i + k) = (nm i).getD k 0
/-- numbers told, place by place -/
def mX (ok : Nat → Prop) (S : Nat → List Int32) (h : zH) : Prop := ∀ j, S (1000 + j) ≠ [] → ok j ∧ h.2.1 200 j = (S (1000 + j)).getD 0 0
theorem mX.add {ok : Nat → Prop} {S : Nat → List Int32} {i : Nat} {h : zH} {x : Int32} (k : mX ok S h) (hj : ok i) (hv : h.2.1 200 i = x) : mX ok (xS S i x) h := by
  intro j hj2
  rw [upX] at hj2 ⊢
  by_cases e : j = i
  · subst e
    rw [if_pos rfl]
    exact ⟨hj, hv⟩
  · rw [if_neg e] at hj2 ⊢
    exact k j hj2
theorem mX.mono {ok ok' : Nat → Prop} {S : Nat → List Int32} {h : zH} (k : mX ok S h) (e : ∀ j, ok j → ok' j) : mX ok' S h := fun j hj => ⟨e j (k j hj).1, (k j hj).2⟩
theorem mX.fr {ok : Nat → Prop} {S : Nat → List Int32} {h h' : zH} (k : mX ok S h) (e : ∀ j, S (1000 + j) ≠ [] → ok j → h'.2.1 200 j = h.2.1 200 j) : mX ok S h' := fun j hj => ⟨(k j hj).1, (e j hj (k j hj).1).trans (k j hj).2⟩
theorem mX.isl {ok : Nat → Prop} {S : Nat → List Int32} {i : Nat} {w : List Int32} {h : zH} (k : mX ok S h) (hi : i < 1000) : mX ok (upA S i w) h := fun j hj => by
  rw [upI_hi hi] at hj ⊢
  exact k j hj
theorem okX_lt {A : pA} {j : Nat} (k : okX A j) (b2 : cW A ≤ 12) (b3 : cH A ≤ 5) (b4 : cB A ≤ 8) (b5 : cS A ≤ 8) : (1 ≤ j ∧ j ≤ 3) ∨ (59 ≤ j ∧ j < 183) := by
  unfold okX at k
  omega
def rmC (A : pA) (h : zH) : Prop := (h.2.1 200 9 = if A.1 = 0 then 0 else 1) ∧ (A.1 ≠ 0 → h.2.1 200 0 = A.1) ∧ h.2.1 200 4 = nI (cI A) ∧ h.2.1 200 5 = nI (cW A) ∧ h.2.1 200 6 = nI (cH A) ∧ h.2.1 200 7 = nI (cB A) ∧ h.2.1 200 8 = nI (cS A)
  ∧ (∀ i, i < cI A → h.2.1 200 (10 + 7 * i) = nI (A.2.2.1 i).length ∧ ∀ k, k < (A.2.2.1 i).length → h.2.1 200 (10 + 7 * i + 1 + k) = (A.2.2.1 i).getD k 0 - 97)
  ∧ (∀ k, k < cW A → h.2.1 200 (59 + 4 * k) = nI (A.2.2.2.1 k).1 ∧ h.2.1 200 (59 + 4 * k + 1) = nI (A.2.2.2.1 k).2)
  ∧ (∀ k, k < cS A → h.2.1 200 (159 + 3 * k) = nI (A.2.2.2.2.1 k).1 ∧ h.2.1 200 (159 + 3 * k + 2) = (A.2.2.2.2.1 k).2)
  ∧ mX (okX A) A.2.2.1 h
def mS (R0 : Nat → Nat → Int32) (y : Nat → Int32) (n : Nat) (A : pA) (nm : Nat → List Int32) (p : Nat) (h : zH) : Prop := mT R0 y n p h ∧ h.2.1 196 13 = 0 ∧ rmC A h ∧ rmN nm h
def mF (R0 : Nat → Nat → Int32) (y : Nat → Int32) (n : Nat) (e : sF) (h : zH) : Prop := mx R0 y n h ∧ h.2.1 196 13 = 1 ∧ h.2.1 196 9 = e.1 ∧ h.2.1 196 10 = nI e.2
def wrg (h : zH) (k : Int32) (s : Nat) : zH := zsI (zsI (zsI h 196 13 1) 196 9 k) 196 10 (nI s)
section MDV
variable {R0 : Nat → Nat → Int32} {y : Nat → Int32} {n d N p k s : Nat} {h h' g : zH} {A : pA} {nm : Nat → List Int32} {e : sF}
theorem nM.mT (hx : mx R0 y n h) (hp : p ≤ n) (q : nM y n p h h') : mT R0 y n p h' :=
  ⟨hx.fr q.1 (congrArg (fun z => z.2.1) q.2.1) (q.2.2.1 196 3 (by omega) (by omega)) (fun a i hk => q.2.2.1 a i (by unfold mKp at hk; omega) (by unfold mKp at hk; omega)), hp, q.2.2.2.1, q.2.2.2.2.1, q.2.2.2.2.2.1, q.2.2.2.2.2.2.1, q.2.2.2.2.2.2.2⟩
theorem rmC.fr (k : rmC A h) (e : ∀ j, h'.2.1 200 j = h.2.1 200 j) : rmC A h' := by
  obtain ⟨k1, k2, k3, k4, k5, k6, k7, k8, k9, k10, k11⟩ := k
  refine ⟨(e _).trans k1, fun z => (e _).trans (k2 z), (e _).trans k3, (e _).trans k4, (e _).trans k5, (e _).trans k6, (e _).trans k7, fun i hi => ⟨(e _).trans (k8 i hi).1, fun j hj => (e _).trans ((k8 i hi).2 j hj)⟩, fun i hi => ⟨(e _).trans (k9 i hi).1, (e _).trans (k9 i hi).2⟩, fun i hi => ⟨(e _).trans (k10 i hi).1, (e _).trans (k10 i hi).2⟩, k11.fr (fun j _ _ => e j)⟩
theorem rmN.fr (k : rmN nm h) (e : ∀ j, h'.2.1 200 j = h.2.1 200 j) : rmN nm h' := fun i hi => ⟨(e _).trans (k i hi).1, fun j hj => (e _).trans ((k i hi).2 j hj)⟩
theorem mS.nx {q : Nat} (K : mS R0 y n A nm p h) (m : nM y n q h h') (hq : q ≤ n) : mS R0 y n A nm q h' :=
  ⟨m.mT K.1.1 hq, (m.2.2.1 196 13 (by omega) (by omega)).trans K.2.1, K.2.2.1.fr (fun j => m.2.2.1 200 j (by omega) (by omega)), K.2.2.2.fr (fun j => m.2.2.1 200 j (by omega) (by omega))⟩
theorem wrg_mF {k : Int32} (hx : mx R0 y n h) : mF R0 y n (k, s) (wrg h k s) := by
  refine ⟨((hx.zs (by decide) (by decide)).zs (by decide) (by decide)).zs (by decide) (by decide), ?_, ?_, zsI_eq⟩
  · show (zsI (zsI (zsI h 196 13 1) 196 9 k) 196 10 (nI s)).2.1 196 13 = 1
    rw [zsI_no (by omega), zsI_no (by omega), zsI_eq]
  · show (zsI (zsI (zsI h 196 13 1) 196 9 k) 196 10 (nI s)).2.1 196 9 = k
    rw [zsI_no (by omega), zsI_eq]
theorem m_wrong {k x : Int32} (hx : mx R0 y n h) (hf : h.2.1 196 13 = 0) (hs : x = nI s) : zPa d mX12_wrong [.inr (.inr (some 196)), .inl k, .inl x] h (fun v h' => v = none ∧ h' = wrg h k s) := by
  intro N
  have s196 := hx.sh sh_196
  subst hs
  show zPn N none d mX12_wrong (0, [(0, .inr (.inr (some 196))), (1, .inl k), (2, .inl (nI s))], [], h) _
  refine pa_aload_n (pc' := 1) dX12_wrong_0 rfl rfl ?_
  refine pa_getI (pc' := 4) (n := 39) dX12_wrong_1 fl_12_100 s196 (by decide) hf rfl ?_
  refine pa_if_t (pc' := 8) dX12_wrong_4 (by decide) (by decide) ?_
  refine pa_aload_n (pc' := 9) dX12_wrong_8 rfl rfl ?_
  refine pa_iconst (v := 1) (pc' := 10) dX12_wrong_9 (by decide) rfl ?_
  refine pa_putI (pc' := 13) (n := 39) dX12_wrong_10 fl_12_100 s196 (Or.inl rfl) (Or.inr ⟨rfl, by decide⟩) rfl ?_
  refine pa_aload_n (pc' := 14) dX12_wrong_13 rfl rfl ?_
  refine pa_iload_n (pc' := 15) dX12_wrong_14 rfl rfl ?_
  refine pa_putI (pc' := 18) (n := 39) dX12_wrong_15 fl_12_104 s196 (Or.inl rfl) (Or.inl rfl) rfl ?_
  refine pa_aload_n (pc' := 19) dX12_wrong_18 rfl rfl ?_
  refine pa_iload_n (pc' := 20) dX12_wrong_19 rfl rfl ?_
  refine pa_putI (pc' := 23) (n := 39) dX12_wrong_20 fl_12_13 s196 (Or.inl rfl) (Or.inl rfl) rfl ?_
  exact pa_vret dX12_wrong_23 rfl ⟨rfl, rfl⟩
theorem m_wrongF {k x : Int32} (hx : mx R0 y n h) (hf : h.2.1 196 13 = 1) : zPa d mX12_wrong [.inr (.inr (some 196)), .inl k, .inl x] h (fun v h' => v = none ∧ h' = h) := by
  intro N
  have s196 := hx.sh sh_196
  show zPn N none d mX12_wrong (0, [(0, .inr (.inr (some 196))), (1, .inl k), (2, .inl x)], [], h) _
  refine pa_aload_n (pc' := 1) dX12_wrong_0 rfl rfl ?_
  refine pa_getI (pc' := 4) (n := 39) dX12_wrong_1 fl_12_100 s196 (by decide) hf rfl ?_
  refine pa_if_f (pc' := 7) dX12_wrong_4 (by decide) (by decide) rfl ?_
  exact pa_vret dX12_wrong_7 rfl ⟨rfl, rfl⟩
theorem m_isWF {a : Nat} (hx : mx R0 y n h) (hf : h.2.1 196 13 = 1) : zPa d mX12_isWord [.inr (.inr (some 196)), .inr (.inr (some a))] h (fun v h' => h' = h ∧ v = some (.inl 0)) := by
  intro N
  have s196 := hx.sh sh_196
  show zPn N none d mX12_isWord (0, [(0, .inr (.inr (some 196))), (1, .inr (.inr (some a)))], [], h) _
  refine pa_aload_n (pc' := 1) dX12_isWord_0 rfl rfl ?_
  refine pa_getI (pc' := 4) (n := 39) dX12_isWord_1 fl_12_100 s196 (by decide) hf rfl ?_
  refine pa_if_t (pc' := 26) dX12_isWord_4 (by decide) (by decide) ?_
  refine pa_iconst (v := 0) (pc' := 27) dX12_isWord_26 (by decide) rfl ?_
  exact pa_iret dX12_isWord_27 rfl rfl ⟨rfl, rfl⟩
theorem m_isW {a : Nat} {bs : List Int32} (K : mT R0 y n p h) (hf : h.2.1 196 13 = 0) (hz : zsc a = some bs) : zPa d mX12_isWord [.inr (.inr (some 196)), .inr (.inr (some a))] h (fun v h' => h' = h ∧ ((v = some (.inl 1) ∧ wIs y n p bs) ∨ (v = some (.inl 0) ∧ ¬ wIs y n p bs))) := by
  intro N
  obtain ⟨hx, hp, k4, k5, k6, k8, k7⟩ := K
  have s196 := hx.sh sh_196
  have s198 := hx.sh sh_198
  have r196_12 := hx.2.1 _ _ _ rf_196_12
  have hn := hx.2.2.2.1
  obtain ⟨u1, u2, u3⟩ := tE_sp (y := y) hp
  obtain ⟨-, hl, -⟩ := zsc_get hz
  show zPn N none d mX12_isWord (0, [(0, .inr (.inr (some 196))), (1, .inr (.inr (some a)))], [], h) _
  have bad : ∀ {N : Nat}, ¬ wIs y n p bs → zPn N none d mX12_isWord (26, [(0, .inr (.inr (some 196))), (1, .inr (.inr (some a)))], [], h) (fun v h' => h' = h ∧ ((v = some (.inl 1) ∧ wIs y n p bs) ∨ (v = some (.inl 0) ∧ ¬ wIs y n p bs))) := by
    intro N z
    refine pa_iconst (v := 0) (pc' := 27) dX12_isWord_26 (by decide) rfl ?_
    exact pa_iret dX12_isWord_27 rfl rfl ⟨rfl, .inr ⟨rfl, z⟩⟩
  refine pa_aload_n (pc' := 1) dX12_isWord_0 rfl rfl ?_
  refine pa_getI (pc' := 4) (n := 39) dX12_isWord_1 fl_12_100 s196 (by decide) hf rfl ?_
  refine pa_if_f (pc' := 7) dX12_isWord_4 (by decide) (by decide) rfl ?_
  refine pa_aload_n (pc' := 8) dX12_isWord_7 rfl rfl ?_
  refine pa_getI (pc' := 11) (n := 39) dX12_isWord_8 fl_12_90 s196 (by decide) k6 rfl ?_
  refine pa_iconst (v := 2) (pc' := 12) dX12_isWord_11 (by decide) rfl ?_
  refine pa_icmp (pc' := 26) (pc2 := 15) dX12_isWord_12 (by decide) rfl (fun cd => bad (fun z => by
    have cd : ¬ tT y n p = 2 := by simpa [zcond] using cd
    exact cd z.1)) (fun cd => ?_)
  have t2 : tT y n p = 2 := by simpa [zcond] using cd
  obtain ⟨k8, kl⟩ := k8 t2
  obtain ⟨w1, w2, w3⟩ := tW_ok hp t2
  have el : (tW y n p).length = tE y n p - tS y n p := seg_len
  refine pa_aload_n (pc' := 16) dX12_isWord_15 rfl rfl ?_
  refine pa_getI (pc' := 19) (n := 39) dX12_isWord_16 fl_12_84 s196 (by decide) k8 rfl ?_
  refine pa_aload_n (pc' := 20) dX12_isWord_19 rfl rfl ?_
  refine pa_strlen (pc' := 23) dX12_isWord_20 ml_12_107 hz (zble rfl) rfl ?_
  refine pa_icmp (pc' := 28) (pc2 := 26) dX12_isWord_23 (by decide) rfl (fun cd2 => ?_) (fun cd2 => bad (fun z => by
    have cd2 : ¬ nI (tE y n p - tS y n p) = nI bs.length := by simpa [zcond] using cd2
    exact cd2 (by rw [z.2.1])))
  have cd2 : nI (tE y n p - tS y n p) = nI bs.length := by simpa [zcond] using cd2
  have cd2 : tE y n p - tS y n p = bs.length := by
    have := congrArg Int32.toInt cd2
    rw [nI_toInt (by omega), nI_toInt (by omega)] at this
    omega
  have loop : ∀ (N j : Nat) (b : Int32) (ls : zL), (b = 0 ∨ b = 1) → (b = 1 ↔ ∀ k, k < j → y (tS y n p + k) = bs.getD k 0) → zget ls 0 = some (.inr (.inr (some 196))) → zget ls 1 = some (.inr (.inr (some a))) → zget ls 2 = some (.inl b) → zget ls 3 = some (.inl (nI j)) → j ≤ bs.length → zPn N none d mX12_isWord (32, ls, [], h) (fun v h' => h' = h ∧ ((v = some (.inl 1) ∧ wIs y n p bs) ∨ (v = some (.inl 0) ∧ ¬ wIs y n p bs))) := by
    intro N
    induction N with
    | zero => intro j b ls _ _ _ _ _ _ _; exact zPn.zero
    | succ N ih =>
      intro j b ls hb hbi hl0 hl1 hl2 hl3 hj
      refine pa_iload_n (pc' := 33) dX12_isWord_32 hl3 rfl ?_
      refine pa_aload_n (pc' := 34) dX12_isWord_33 hl0 rfl ?_
      refine pa_getI (pc' := 37) (n := 39) dX12_isWord_34 fl_12_84 s196 (by decide) k8 rfl ?_
      refine pa_icmp (pc' := 70) (pc2 := 40) dX12_isWord_37 (by decide) rfl (fun cd3 => ?_) (fun cd3 => ?_)
      · have cd3 := zi_nlt (zk_ge_lt cd3)
        rw [nI_toInt (by omega), nI_toInt (by omega)] at cd3
        have ej : j = bs.length := by omega
        refine pa_iload_n (pc' := 71) dX12_isWord_70 hl2 rfl ?_
        rcases hb with rfl | rfl
        · refine pa_iret dX12_isWord_71 rfl rfl ⟨rfl, .inr ⟨rfl, fun z => ?_⟩⟩
          have := hbi.mpr (fun k hk => z.2.2 k (by omega))
          exact absurd this (by decide)
        · refine pa_iret dX12_isWord_71 rfl rfl ⟨rfl, .inl ⟨rfl, t2, cd2, fun k hk => hbi.mp rfl k (by omega)⟩⟩
      · have cd3 := zi_lt (zk_ge_lt cd3)
        rw [nI_toInt (by omega), nI_toInt (by omega)] at cd3
        have nxt : ∀ (b' : Int32) (ls' : zL), (b' = 0 ∨ b' = 1) → (b' = 1 ↔ ∀ k, k < j + 1 → y (tS y n p + k) = bs.getD k 0) → zget ls' 0 = some (.inr (.inr (some 196))) → zget ls' 1 = some (.inr (.inr (some a))) → zget ls' 2 = some (.inl b') → zget ls' 3 = some (.inl (nI j)) → zPn (N + 1) none d mX12_isWord (64, ls', [], h) (fun v h' => h' = h ∧ ((v = some (.inl 1) ∧ wIs y n p bs) ∨ (v = some (.inl 0) ∧ ¬ wIs y n p bs))) := by
          intro b' ls' c1 c2 z0 z1 z2 z3
          refine pa_iinc (pc' := 67) (v := nI (j + 1)) dX12_isWord_64 z3 (by decide) (nI_add j 1) rfl rfl ?_
          refine pa_gotos (pc' := 32) dX12_isWord_67 (by decide) ?_
          exact ih (j + 1) b' _ c1 c2 (zget_s1 z0 (by decide) (by simp [zcat])) (zget_s1 z1 (by decide) (by simp [zcat])) (zget_s1 z2 (by decide) (by simp [zcat])) zget_s1e (by omega)
        have zero : (∃ k, k < j + 1 ∧ ¬ y (tS y n p + k) = bs.getD k 0) → zPn (N + 1) none d mX12_isWord (62, ls, [], h) (fun v h' => h' = h ∧ ((v = some (.inl 1) ∧ wIs y n p bs) ∨ (v = some (.inl 0) ∧ ¬ wIs y n p bs))) := by
          intro ⟨k, hk, z⟩
          refine pa_iconst (v := 0) (pc' := 63) dX12_isWord_62 (by decide) rfl ?_
          refine pa_istore_n (pc' := 64) dX12_isWord_63 (by decide) rfl rfl ?_
          exact nxt 0 _ (.inl rfl) ⟨fun w => absurd w (by decide), fun w => absurd (w k hk) z⟩ (zget_s1 hl0 (by decide) (by simp [zcat])) (zget_s1 hl1 (by decide) (by simp [zcat])) zget_s1e (zget_s1 hl3 (by decide) (by simp [zcat]))
        refine pa_iload_n (pc' := 41) dX12_isWord_40 hl2 rfl ?_
        rcases hb with rfl | rfl
        · refine pa_if_t (pc' := 62) dX12_isWord_41 (by decide) (by decide) ?_
          refine zero ?_
          apply Classical.byContradiction
          intro w
          have : (0 : Int32) = 1 := hbi.mpr (fun k hk => Classical.byContradiction (fun z => w ⟨k, by omega, z⟩))
          exact absurd this (by decide)
        · refine pa_if_f (pc' := 44) dX12_isWord_41 (by decide) (by decide) rfl ?_
          refine pa_aload_n (pc' := 45) dX12_isWord_44 hl0 rfl ?_
          refine pa_getR (pc' := 48) (n := 39) (r := 198) dX12_isWord_45 fl_12_17 s196 (by decide) r196_12 rfl ?_
          refine pa_iload_n (pc' := 49) dX12_isWord_48 hl3 rfl ?_
          refine pa_iald (pc' := 50) (n := 8) dX12_isWord_49 s198 rfl (fun _ => ?_)
          rw [nI_clamp (by omega), kl j (by omega)]
          refine pa_aload_n (pc' := 51) dX12_isWord_50 hl1 rfl ?_
          refine pa_iload_n (pc' := 52) dX12_isWord_51 hl3 rfl ?_
          refine pa_strchar (pc' := 55) dX12_isWord_52 ml_12_113 hz (zble rfl) (zn_in (by omega) (by omega)) rfl ?_
          rw [nI_clamp (by omega)]
          refine pa_icmp (pc' := 62) (pc2 := 58) dX12_isWord_55 (by decide) rfl (fun cd4 => zero ⟨j, by omega, by simpa [zcond] using cd4⟩) (fun cd4 => ?_)
          have cd4 : y (tS y n p + j) = bs.getD j 0 := by simpa [zcond] using cd4
          refine pa_iconst (v := 1) (pc' := 59) dX12_isWord_58 (by decide) rfl ?_
          refine pa_goto (pc' := 63) dX12_isWord_59 (by decide) ?_
          refine pa_istore_n (pc' := 64) dX12_isWord_63 (by decide) rfl rfl ?_
          refine nxt 1 _ (.inr rfl) ⟨fun _ k hk => ?_, fun _ => rfl⟩ (zget_s1 hl0 (by decide) (by simp [zcat])) (zget_s1 hl1 (by decide) (by simp [zcat])) zget_s1e (zget_s1 hl3 (by decide) (by simp [zcat]))
          rcases Nat.lt_or_ge k j with w | w
          · exact hbi.mp rfl k w
          · have : k = j := by omega
            subst this
            exact cd4
  refine pa_iconst (v := 1) (pc' := 29) dX12_isWord_28 (by decide) rfl ?_
  refine pa_istore_n (pc' := 30) dX12_isWord_29 (by decide) rfl rfl ?_
  refine pa_iconst (v := nI 0) (pc' := 31) dX12_isWord_30 (by decide) rfl ?_
  refine pa_istore_n (pc' := 32) dX12_isWord_31 (by decide) rfl rfl ?_
  exact loop N 0 1 _ (.inr rfl) ⟨fun _ k hk => absurd hk (Nat.not_lt_zero k), fun _ => rfl⟩ rfl rfl rfl rfl (Nat.zero_le _)
/-- a word that must come; a fault stays -/
def muR (R0 : Nat → Nat → Int32) (y : Nat → Int32) (n : Nat) (A : pA) (nm : Nat → List Int32) (h : zH) (r : sF ⊕ Nat) (v : Option zV) (h' : zH) : Prop := v = none ∧ (∀ a j, a ≠ 196 → a ≠ 198 → h'.2.1 a j = h.2.1 a j) ∧ (match r with
  | .inl e => mF R0 y n e h'
  | .inr q => mS R0 y n A nm q h')
theorem M_mustF {a : Nat} (hx : mx R0 y n h) (hf : h.2.1 196 13 = 1) : zPa d mX12_must [.inr (.inr (some 196)), .inr (.inr (some a))] h (fun v h' => v = none ∧ h' = h) := by
  intro N
  have s196 := hx.sh sh_196
  show zPn N none d mX12_must (0, [(0, .inr (.inr (some 196))), (1, .inr (.inr (some a)))], [], h) _
  refine pa_aload_n (pc' := 1) dX12_must_0 rfl rfl ?_
  refine pa_getI (pc' := 4) (n := 39) dX12_must_1 fl_12_100 s196 (by decide) hf rfl ?_
  refine pa_if_t (pc' := 24) dX12_must_4 (by decide) (by decide) ?_
  exact pa_vret dX12_must_24 rfl ⟨rfl, rfl⟩
theorem M_must {a : Nat} {bs : List Int32} (K : mS R0 y n A nm p h) (hz : zsc a = some bs) : zPa d mX12_must [.inr (.inr (some 196)), .inr (.inr (some a))] h (muR R0 y n A nm h (sWord y n bs p)) := by
  intro N
  have hx := K.1.1
  have hp := K.1.2.1
  have s196 := hx.sh sh_196
  have hf := K.2.1
  have hT : zPa (d - 1) mX12_takesWord [.inr (.inr (some 196)), .inr (.inr (some a))] h (fun v h' => (v = some (.inl 1) ∧ wIs y n p bs ∧ nM y n (tE y n p) h h') ∨ (v = some (.inl 0) ∧ ¬ wIs y n p bs ∧ h' = h)) := by
    intro N
    show zPn N none (d - 1) mX12_takesWord (0, [(0, .inr (.inr (some 196))), (1, .inr (.inr (some a)))], [], h) _
    refine pa_aload_n (pc' := 1) dX12_takesWord_0 rfl rfl ?_
    refine pa_aload_n (pc' := 2) dX12_takesWord_1 rfl rfl ?_
    refine pa_callv (pc' := 5) (vs := [.inr (.inr (some a))]) (rest := []) dX12_takesWord_2 ml_12_117 (by decide) rfl rfl rfl (fun d' _ => m_isW K.1 hf hz) (fun r g hq => ?_)
    obtain ⟨eg, hq⟩ := hq
    subst eg
    rcases hq with ⟨er, w⟩ | ⟨er, w⟩ <;> subst er
    · refine pa_if_t (x := 1) (pc' := 10) dX12_takesWord_5 (by decide) (by decide) ?_
      refine pa_aload_n (pc' := 11) dX12_takesWord_10 rfl rfl ?_
      refine pa_callv (pc' := 14) (vs := []) (rest := []) dX12_takesWord_11 ml_12_121 (by decide) rfl rfl rfl (fun d' _ => m_next hx K.1.2.2.2.1 (tE_sp hp).2.1) (fun r g2 hq => ?_)
      obtain ⟨er, hq⟩ := hq
      subst er
      refine pa_iconst (v := 1) (pc' := 15) dX12_takesWord_14 (by decide) rfl ?_
      exact pa_iret dX12_takesWord_15 rfl rfl (.inl ⟨rfl, w, hq⟩)
    · refine pa_if_f (x := 0) (pc' := 8) dX12_takesWord_5 (by decide) (by decide) rfl ?_
      refine pa_iconst (v := 0) (pc' := 9) dX12_takesWord_8 (by decide) rfl ?_
      exact pa_iret dX12_takesWord_9 rfl rfl (.inr ⟨rfl, w, rfl⟩)
  show zPn N none d mX12_must (0, [(0, .inr (.inr (some 196))), (1, .inr (.inr (some a)))], [], h) _
  refine pa_aload_n (pc' := 1) dX12_must_0 rfl rfl ?_
  refine pa_getI (pc' := 4) (n := 39) dX12_must_1 fl_12_100 s196 (by decide) hf rfl ?_
  refine pa_if_f (pc' := 7) dX12_must_4 (by decide) (by decide) rfl ?_
  refine pa_aload_n (pc' := 8) dX12_must_7 rfl rfl ?_
  refine pa_aload_n (pc' := 9) dX12_must_8 rfl rfl ?_
  refine pa_callv (pc' := 12) (vs := [.inr (.inr (some a))]) (rest := []) dX12_must_9 ml_12_124 (by decide) rfl rfl rfl (fun d' e => by rw [show d' = d - 1 by omega]; exact hT) (fun r g hq => ?_)
  rcases hq with ⟨er, w, q⟩ | ⟨er, w, q⟩
  · subst er
    refine pa_if_t (x := 1) (pc' := 24) dX12_must_12 (by decide) (by decide) ?_
    refine pa_vret dX12_must_24 rfl ⟨rfl, fun a j h1 h2 => q.2.2.1 a j (by omega) h2, ?_⟩
    unfold sWord
    rw [if_pos (wIs_w.mp w)]
    exact K.nx q (tE_sp hp).2.1
  · subst er; subst q
    refine pa_if_f (x := 0) (pc' := 15) dX12_must_12 (by decide) (by decide) rfl ?_
    have k4 := K.1.2.2.1
    refine pa_aload_n (pc' := 16) dX12_must_15 rfl rfl ?_
    refine pa_iconst (v := 1) (pc' := 17) dX12_must_16 (by decide) rfl ?_
    refine pa_aload_n (pc' := 18) dX12_must_17 rfl rfl ?_
    refine pa_getI (pc' := 21) (n := 39) dX12_must_18 fl_12_81 s196 (by decide) k4 rfl ?_
    refine pa_callv (pc' := 24) (vs := [.inl 1, .inl (nI (tS y n p))]) (rest := []) dX12_must_21 ml_12_127 (by decide) rfl rfl rfl (fun d' _ => m_wrong hx hf rfl) (fun r g2 hq => ?_)
    obtain ⟨er, hq⟩ := hq
    subst er; subst hq
    refine pa_vret dX12_must_24 rfl ⟨rfl, fun a j h1 _ => ?_, ?_⟩
    · show (zsI (zsI (zsI g 196 13 1) 196 9 1) 196 10 _).2.1 a j = _
      rw [zsI_no (by omega), zsI_no (by omega), zsI_no (by omega)]
    · unfold sWord
      rw [if_neg (fun z => w (wIs_w.mpr z))]
      exact wrg_mF hx
end MDV
