/-! the class's draft: new names, songs, ways, spouts -/
theorem pc_sh {c : Nat} (hc : cc2 c) : zsh hh_487 c = some (4, 15) ∧ zsh hh_487 (c + 1) = some (14, 7) ∧ zsh hh_487 (c + 2) = some (14, 7) ∧ zsh hh_487 (c + 3) = some (19, 12) ∧ zsh hh_487 (c + 4) = some (20, 5) ∧ zsh hh_487 (c + 5) = some (16, 8) ∧ zsh hh_487 (c + 6) = some (18, 8) := by
  rcases hc with rfl | rfl
  · decide +kernel
  · decide +kernel
theorem pc_rf {c : Nat} (hc : cc2 c) : wd.2.2.1 c 9 = some (c + 1) ∧ wd.2.2.1 c 10 = some (c + 2) ∧ wd.2.2.1 c 11 = some (c + 3) ∧ wd.2.2.1 c 12 = some (c + 4) ∧ wd.2.2.1 c 13 = some (c + 5) ∧ wd.2.2.1 c 14 = some (c + 6) := by
  rcases hc with rfl | rfl
  · decide +kernel
  · decide +kernel
theorem pc_way {c k : Nat} (hc : cc2 c) (hk : k < 12) : zsh hh_487 (c + 7 + k) = some (9, 4) ∧ wd.2.2.1 (c + 3) k = some (c + 7 + k) := by
  have h : ∀ k : Fin 12, (zsh hh_487 (2 + 7 + k.val) = some (9, 4) ∧ wd.2.2.1 (2 + 3) k.val = some (2 + 7 + k.val)) ∧ (zsh hh_487 (42 + 7 + k.val) = some (9, 4) ∧ wd.2.2.1 (42 + 3) k.val = some (42 + 7 + k.val)) := by decide +kernel
  rcases hc with rfl | rfl
  · exact (h ⟨k, hk⟩).1
  · exact (h ⟨k, hk⟩).2
theorem pc_whl {c k : Nat} (hc : cc2 c) (hk : k < 5) : zsh hh_487 (c + 19 + k) = some (10, 4) ∧ wd.2.2.1 (c + 4) k = some (c + 19 + k) := by
  have h : ∀ k : Fin 5, (zsh hh_487 (2 + 19 + k.val) = some (10, 4) ∧ wd.2.2.1 (2 + 4) k.val = some (2 + 19 + k.val)) ∧ (zsh hh_487 (42 + 19 + k.val) = some (10, 4) ∧ wd.2.2.1 (42 + 4) k.val = some (42 + 19 + k.val)) := by decide +kernel
  rcases hc with rfl | rfl
  · exact (h ⟨k, hk⟩).1
  · exact (h ⟨k, hk⟩).2
theorem pc_box {c k : Nat} (hc : cc2 c) (hk : k < 8) : zsh hh_487 (c + 24 + k) = some (0, 4) ∧ wd.2.2.1 (c + 5) k = some (c + 24 + k) := by
  have h : ∀ k : Fin 8, (zsh hh_487 (2 + 24 + k.val) = some (0, 4) ∧ wd.2.2.1 (2 + 5) k.val = some (2 + 24 + k.val)) ∧ (zsh hh_487 (42 + 24 + k.val) = some (0, 4) ∧ wd.2.2.1 (42 + 5) k.val = some (42 + 24 + k.val)) := by decide +kernel
  rcases hc with rfl | rfl
  · exact (h ⟨k, hk⟩).1
  · exact (h ⟨k, hk⟩).2
theorem pc_spt {c k : Nat} (hc : cc2 c) (hk : k < 8) : zsh hh_487 (c + 32 + k) = some (8, 3) ∧ wd.2.2.1 (c + 6) k = some (c + 32 + k) := by
  have h : ∀ k : Fin 8, (zsh hh_487 (2 + 32 + k.val) = some (8, 3) ∧ wd.2.2.1 (2 + 6) k.val = some (2 + 32 + k.val)) ∧ (zsh hh_487 (42 + 32 + k.val) = some (8, 3) ∧ wd.2.2.1 (42 + 6) k.val = some (42 + 32 + k.val)) := by decide +kernel
  rcases hc with rfl | rfl
  · exact (h ⟨k, hk⟩).1
  · exact (h ⟨k, hk⟩).2
section RDZ
variable {y : Nat → Int32} {n c d N p m : Nat} {h h' : zH} {A : pA} {nm : Nat → List Int32} {Q : Option zV → zH → Prop}
theorem upA_at {α : Type} {f : Nat → α} {k j : Nat} {v : α} : upA f k v j = if j = k then v else f j := rfl
theorem nmI.new {i : Nat} (hn : nmI nm) (hi : i < 20) (hp : p ≤ n) (ht : tT y n p = 2) (hf : nFind nm (tW y n p) = none) : nmI (upA nm i (tW y n p)) := by
  obtain ⟨w1, w2, w3⟩ := tW_ok hp ht
  have hno : ∀ j, j < 20 → nm j ≠ tW y n p := fun j hj z => by
    have := List.find?_eq_none.mp hf j (List.mem_range.mpr hj)
    exact this (decide_eq_true z)
  refine ⟨fun j hj hne => ?_, fun j k hj hk hne e => ?_⟩
  · rw [upA_at] at hne ⊢
    split
    · exact ⟨w1, w2⟩
    · next q => rw [if_neg q] at hne; exact hn.1 j hj hne
  · rw [upA_at] at hne e
    rw [upA_at] at e
    by_cases c1 : j = i
    · by_cases c2 : k = i
      · omega
      · rw [if_pos c1, if_neg c2] at e
        exact absurd e.symm (hno k hk)
    · rw [if_neg c1] at hne e
      by_cases c2 : k = i
      · rw [if_pos c2] at e
        exact absurd e (hno j hj)
      · rw [if_neg c2] at e
        exact hn.2 j k hj hk hne e
def neR (y : Nat → Int32) (n c : Nat) (A : pA) (nm : Nat → List Int32) (m i p : Nat) (h : zH) (r : sF ⊕ Nat) (v : Option zV) (h' : zH) : Prop := match r with
  | .inl e => v = some (.inl 0) ∧ fl e h'
  | .inr q => v = some (.inl 1) ∧ rs y n c A (upA nm i (tW y n p)) (m + 1) q h' ∧ nmI (upA nm i (tW y n p)) ∧ fr82 h h'
theorem C_new {i : Nat} {s k : Int32} (hs : sN i s k) (hi : i < 20) (hfr : nm i = []) (hm : m < 20) (hc : cc2 c) (hI : pI A) (hn : nmI nm) (K : rs y n c A nm m p h) : zPa d mX5_newName [.inr (.inr (some 82)), .inl s, .inl k] h (neR y n c A nm m i p h (sNew y n nm p)) := by
  refine (c_new K.1 K.2.1 K.2.2.1 K.2.2.2.2.1 hm).mono (fun v h' hq => ?_)
  obtain ⟨h1, q, ⟨e, w, g⟩ | ⟨w, ⟨j, hj, ej⟩, e, g⟩ | ⟨w, a, e, g⟩⟩ := hq
  · unfold sNew
    rw [if_neg (fun z => w (isNb_n.mp z))]
    exact ⟨e, g.fl⟩
  · unfold sNew
    obtain ⟨i, i1, i2, i3⟩ := K.2.2.2.2.yes hn K.2.2.1 w.1 hj ej
    rw [if_pos (isNb_n.mpr w), i2]
    exact ⟨e, g.fl⟩
  · obtain ⟨w1, w2, w3⟩ := tW_ok K.2.2.1 w.1
    have hf := K.2.2.2.2.no w3 a
    unfold sNew
    rw [if_pos (isNb_n.mpr w), hf, if_neg (by decide)]
    have R := K.nx hc hI q (by rw [w.1]; decide)
    subst g
    have at_ : ∀ a j, ¬ (a = 84 ∧ j = m) → ¬ (a = 85 ∧ j = m) → ¬ (a = 82 ∧ j = 10) → (newN h1 m (tLet y n p) s k).2.1 a j = h1.2.1 a j := by
      intro a j z1 z2 z3
      show (zsI (zsI (zsI (zsL h1 83 m (tLet y n p)) 84 m s) 85 m k) 82 10 (nI (m + 1))).2.1 a j = _
      rw [zsI_no z3, zsI_no z2, zsI_no z1]
      rfl
    refine ⟨e, ?_, hn.new hi K.2.2.1 w.1 hf, fun a j ha => (at_ a j (by omega) (by omega) (by omega)).trans (q.at (by omega))⟩
    obtain ⟨r1, r2, r3, r4, r5⟩ := R
    obtain ⟨n1, n2, μ, n3, n4⟩ := r5
    have at_ : ∀ a j, ¬ (a = 84 ∧ j = m) → ¬ (a = 85 ∧ j = m) → ¬ (a = 82 ∧ j = 10) → (newN h1 m (tLet y n p) s k).2.1 a j = h1.2.1 a j := by
      intro a j z1 z2 z3
      show (zsI (zsI (zsI (zsL h1 83 m (tLet y n p)) 84 m s) 85 m k) 82 10 (nI (m + 1))).2.1 a j = _
      rw [zsI_no z3, zsI_no z2, zsI_no z1]
      rfl
    refine ⟨⟨r1.1, r1.2.1, r1.2.2.1, ?_, ?_, r1.2.2.2.2.2⟩, (at_ _ _ (by omega) (by omega) (by omega)).trans r2, r3, r4.fr hc hI (fun a j ha => at_ _ _ (by omega) (by omega) (by omega)), zsI_eq, by omega, upA μ m i, fun j hj => ?_, fun j hj hne => ?_⟩
    · funext j
      rw [at_ _ _ (by omega) (by omega) (by omega)]
      exact congrFun r1.2.2.2.1 j
    · exact (at_ _ _ (by omega) (by omega) (by omega)).trans r1.2.2.2.2.1
    · rcases Nat.lt_or_ge j m with z | z
      · obtain ⟨a1, a2, a3, a4⟩ := n3 j z
        have ne : μ j ≠ i := fun z => a2 (by rw [z]; exact hfr)
        rw [upA_at, if_neg (by omega), upA_at, if_neg ne]
        refine ⟨a1, a2, ?_, ?_⟩
        · show zup h1.2.2.1 83 m (tLet y n p) 83 j = _
          unfold zup
          rw [if_pos rfl, if_neg (by omega)]
          exact a3
        · rw [at_ 84 j (by omega) (by omega) (by omega), at_ 85 j (by omega) (by omega) (by omega)]
          exact a4
      · have ej : j = m := by omega
        subst ej
        rw [upA_at, if_pos rfl, upA_at, if_pos rfl]
        refine ⟨hi, w3, ?_, ?_⟩
        · show zup h1.2.2.1 83 j (tLet y n p) 83 j = _
          unfold zup
          rw [if_pos rfl, if_pos rfl, tLet_w]
        · have e84 : (newN h1 j (tLet y n p) s k).2.1 84 j = s := by
            show (zsI (zsI (zsI (zsL h1 83 j (tLet y n p)) 84 j s) 85 j k) 82 10 (nI (j + 1))).2.1 84 j = s
            rw [zsI_no (by omega), zsI_no (by omega), zsI_eq]
          have e85 : (newN h1 j (tLet y n p) s k).2.1 85 j = k := by
            show (zsI (zsI (zsI (zsL h1 83 j (tLet y n p)) 84 j s) 85 j k) 82 10 (nI (j + 1))).2.1 85 j = k
            rw [zsI_no (by omega), zsI_eq]
          rw [e84, e85]
          exact hs
    · rw [upA_at] at hne
      by_cases z : j = i
      · exact ⟨m, by omega, by rw [upA_at, if_pos rfl, z]⟩
      · rw [if_neg z] at hne
        obtain ⟨q, hq, eq⟩ := n4 j hj hne
        exact ⟨q, by omega, by rw [upA_at, if_neg (by omega)]; exact eq⟩
/-! songs -/
theorem C_song (hc : cc2 c) (k : ct y n c p h) (h2 : tT y n p = 2) {t : Int32} (ht : h.2.1 c 0 = t) : zPa d mX5_songOfToken [.inr (.inr (some 82))] h (fun v h' => h' = h ∧ ((okSong t (tW y n p) = true ∧ v = some (.inl (codeS (tW y n p)))) ∨ (okSong t (tW y n p) = false ∧ v = some (.inl (-2))))) := by
  intro N
  obtain ⟨hx, hp, hs, htk, he⟩ := k
  have he := he (by rw [h2]; decide)
  have s82 := hx.sh sh_82
  have s1 := hx.sh sh_1
  have sc := hx.sh (pc_sh hc).1
  have r82_0 := hx.2.1 _ _ _ rf_82_0
  have r82_6 := hx.2.2.1
  have hn := hx.2.2.2.2.2
  obtain ⟨t1, t2, t3⟩ := tS_sp (y := y) hp
  obtain ⟨u1, u2, u3⟩ := tE_sp (y := y) hp
  have el : (tW y n p).length = tE y n p - tS y n p := seg_len
  show zPn N none d mX5_songOfToken (0, [(0, .inr (.inr (some 82)))], [], h) _
  refine pa_aload_n (pc' := 1) dX5_songOfToken_0 rfl rfl ?_
  refine pa_getI (pc' := 4) (n := 13) dX5_songOfToken_1 fl_5_15 s82 (by decide) he rfl ?_
  refine pa_aload_n (pc' := 5) dX5_songOfToken_4 rfl rfl ?_
  refine pa_getI (pc' := 8) (n := 13) dX5_songOfToken_5 fl_5_21 s82 (by decide) hs rfl ?_
  refine pa_isub (pc' := 9) (v := nI (tE y n p - tS y n p)) dX5_songOfToken_8 (nI_sub u1) rfl ?_
  refine pa_istore_n (pc' := 10) dX5_songOfToken_9 (by decide) rfl rfl ?_
  refine pa_iload_n (pc' := 11) dX5_songOfToken_10 rfl rfl ?_
  refine pa_iconst (v := nI 2) (pc' := 12) dX5_songOfToken_11 (by decide) rfl ?_
  refine pa_icmp (pc' := 21) (pc2 := 15) dX5_songOfToken_12 (by decide) rfl (fun cd => ?_) (fun cd => ?_)
  · have cd := zi_lt cd
    rw [nI_toInt (by omega), nI_toInt (by omega)] at cd
    refine pa_bipush (v := (-2)) (pc' := 23) dX5_songOfToken_21 (by decide) rfl ?_
    exact pa_iret dX5_songOfToken_23 rfl rfl ⟨rfl, .inr ⟨by unfold okSong; rw [el, decide_eq_false (by omega)]; rfl, rfl⟩⟩
  have cd := zi_nlt cd
  rw [nI_toInt (by omega), nI_toInt (by omega)] at cd
  refine pa_iload_n (pc' := 16) dX5_songOfToken_15 rfl rfl ?_
  refine pa_bipush (v := nI 6) (pc' := 18) dX5_songOfToken_16 (by decide) rfl ?_
  refine pa_icmp (pc' := 24) (pc2 := 21) dX5_songOfToken_18 (by decide) rfl (fun cd2 => ?_) (fun cd2 => ?_)
  · have cd2 := zi_ngt (zk_le_gt cd2)
    rw [nI_toInt (by omega), nI_toInt (by omega)] at cd2
    have loop : ∀ (N j : Nat) (ls : zL) (v : Int32), zget ls 0 = some (.inr (.inr (some 82))) → zget ls 2 = some (.inl v) → zget ls 3 = some (.inl (nI j)) → tS y n p ≤ j → j ≤ tE y n p → (seg y (tE y n p - j) j).foldl (fun (v b : Int32) => v <<< (2 &&& 31) ||| (b - 97)) v = codeS (tW y n p) → ((tW y n p).all (fun b => decide (b - 97 < t)) = (seg y (tE y n p - j) j).all (fun b => decide (b - 97 < t))) → zPn N none d mX5_songOfToken (31, ls, [], h) (fun v h' => h' = h ∧ ((okSong t (tW y n p) = true ∧ v = some (.inl (codeS (tW y n p)))) ∨ (okSong t (tW y n p) = false ∧ v = some (.inl (-2))))) := by
      intro N
      induction N with
      | zero => intro j ls v _ _ _ _ _ _ _; exact zPn.zero
      | succ N ih =>
        intro j ls v hl0 hl2 hl3 h1j hj hv hall
        refine pa_iload_n (pc' := 32) dX5_songOfToken_31 hl3 rfl ?_
        refine pa_aload_n (pc' := 33) dX5_songOfToken_32 hl0 rfl ?_
        refine pa_getI (pc' := 36) (n := 13) dX5_songOfToken_33 fl_5_15 s82 (by decide) he rfl ?_
        refine pa_icmp (pc' := 78) (pc2 := 39) dX5_songOfToken_36 (by decide) rfl (fun cd3 => ?_) (fun cd3 => ?_)
        · have cd3 := zi_nlt (zk_ge_lt cd3)
          rw [nI_toInt (by omega), nI_toInt (by omega)] at cd3
          rw [show tE y n p - j = 0 by omega] at hv hall
          have hv : v = codeS (tW y n p) := hv
          have hall : (tW y n p).all (fun b => decide (b - 97 < t)) = true := hall
          refine pa_iload_n (pc' := 79) dX5_songOfToken_78 hl2 rfl ?_
          exact pa_iret dX5_songOfToken_79 rfl rfl ⟨rfl, .inl ⟨by unfold okSong; rw [hall, el, decide_eq_true (show 2 ≤ tE y n p - tS y n p by omega), decide_eq_true (show tE y n p - tS y n p ≤ 6 by omega)]; rfl, by rw [hv]⟩⟩
        · have cd3 := zi_lt (zk_ge_lt cd3)
          rw [nI_toInt (by omega), nI_toInt (by omega)] at cd3
          obtain ⟨q, eq⟩ : ∃ q, tE y n p - j = q + 1 := ⟨tE y n p - j - 1, by omega⟩
          refine pa_aload_n (pc' := 40) dX5_songOfToken_39 hl0 rfl ?_
          refine pa_getR (pc' := 43) (n := 13) (r := 1) dX5_songOfToken_40 fl_5_47 s82 (by decide) r82_0 rfl ?_
          refine pa_iload_n (pc' := 44) dX5_songOfToken_43 hl3 rfl ?_
          refine pa_bald (pc' := 45) (n := 1000) dX5_songOfToken_44 s1 rfl (fun _ => ?_)
          rw [byte_at rfl (by omega) hx.2.2.2.1]
          refine pa_bipush (v := 97) (pc' := 47) dX5_songOfToken_45 (by decide) rfl ?_
          refine pa_isub (pc' := 48) dX5_songOfToken_47 rfl rfl ?_
          refine pa_istore (pc' := 50) (v := y j - 97) dX5_songOfToken_48 (by decide) rfl rfl ?_
          refine pa_iload (pc' := 52) dX5_songOfToken_50 zget_s1e rfl ?_
          refine pa_aload_n (pc' := 53) dX5_songOfToken_52 (zget_s1 hl0 (by decide) (by simp [zcat])) rfl ?_
          refine pa_getR (pc' := 56) (n := 13) (r := c) dX5_songOfToken_53 fl_5_51 s82 (by decide) r82_6 rfl ?_
          refine pa_getI (pc' := 59) (n := 15) dX5_songOfToken_56 fl_5_84 sc (by decide) ht rfl ?_
          rw [eq] at hv hall
          refine pa_icmp (pc' := 65) (pc2 := 62) dX5_songOfToken_59 (by decide) rfl (fun cd4 => ?_) (fun cd4 => ?_)
          · have cd4 : y j - 97 < t := by simpa [zcond] using cd4
            refine pa_iload_n (pc' := 66) dX5_songOfToken_65 (zget_s1 hl2 (by decide) (by simp [zcat])) rfl ?_
            refine pa_iconst (v := 2) (pc' := 67) dX5_songOfToken_66 (by decide) rfl ?_
            refine pa_ishl (pc' := 68) dX5_songOfToken_67 rfl rfl ?_
            refine pa_iload (pc' := 70) dX5_songOfToken_68 zget_s1e rfl ?_
            refine pa_ior (pc' := 71) dX5_songOfToken_70 rfl rfl ?_
            refine pa_istore_n (pc' := 72) dX5_songOfToken_71 (by decide) rfl rfl ?_
            refine pa_iinc (pc' := 75) (v := nI (j + 1)) dX5_songOfToken_72 (zget_s1 (zget_s1 hl3 (by decide) (by simp [zcat])) (by decide) (by simp [zcat])) (by decide) (nI_add j 1) rfl rfl ?_
            refine pa_gotos (pc' := 31) dX5_songOfToken_75 (by decide) ?_
            refine ih (j + 1) _ _ (zget_s1 (zget_s1 (zget_s1 hl0 (by decide) (by simp [zcat])) (by decide) (by simp [zcat])) (by decide) (by simp [zcat])) (zget_s1 zget_s1e (by decide) (by simp [zcat])) zget_s1e (by omega) (by omega) ?_ ?_
            · rw [show tE y n p - (j + 1) = q by omega]
              exact hv
            · rw [show tE y n p - (j + 1) = q by omega, hall]
              show (decide (y j - 97 < t) && (seg y q (j + 1)).all _) = _
              rw [decide_eq_true cd4]
              rfl
          · have cd4 : ¬ y j - 97 < t := by simpa [zcond] using cd4
            refine pa_bipush (v := (-2)) (pc' := 64) dX5_songOfToken_62 (by decide) rfl ?_
            refine pa_iret dX5_songOfToken_64 rfl rfl ⟨rfl, .inr ⟨?_, rfl⟩⟩
            have : (tW y n p).all (fun b => decide (b - 97 < t)) = false := by
              rw [hall]
              show (decide (y j - 97 < t) && (seg y q (j + 1)).all _) = _
              rw [decide_eq_false cd4]
              rfl
            unfold okSong
            rw [this]
            simp
    refine pa_iconst (v := 0) (pc' := 25) dX5_songOfToken_24 (by decide) rfl ?_
    refine pa_istore_n (pc' := 26) dX5_songOfToken_25 (by decide) rfl rfl ?_
    refine pa_aload_n (pc' := 27) dX5_songOfToken_26 rfl rfl ?_
    refine pa_getI (pc' := 30) (n := 13) dX5_songOfToken_27 fl_5_21 s82 (by decide) hs rfl ?_
    refine pa_istore_n (pc' := 31) dX5_songOfToken_30 (by decide) rfl rfl ?_
    exact loop N (tS y n p) _ 0 rfl rfl rfl (Nat.le_refl _) u1 rfl rfl
  · have cd2 := zi_gt (zk_le_gt cd2)
    rw [nI_toInt (by omega), nI_toInt (by omega)] at cd2
    refine pa_bipush (v := (-2)) (pc' := 23) dX5_songOfToken_21 (by decide) rfl ?_
    exact pa_iret dX5_songOfToken_23 rfl rfl ⟨rfl, .inr ⟨by unfold okSong; rw [el, decide_eq_false (show ¬ tE y n p - tS y n p ≤ 6 by omega)]; simp, rfl⟩⟩
theorem ok_nt {t : Int32} {w : List Int32} (ht : t = 2 ∨ t = 3 ∨ t = 4) (ho : okSong t w = true) (hl : w.all isLt = true) : w.all isNt = true ∧ w.length ≤ 6 := by
  unfold okSong at ho
  simp only [Bool.and_eq_true, decide_eq_true_eq] at ho
  refine ⟨List.all_eq_true.mpr (fun b hb => ?_), ho.2.1⟩
  have h1 := isLt_rg (List.all_eq_true.mp hl b hb)
  have h2 := of_decide_eq_true (List.all_eq_true.mp ho.2.2 b hb)
  rw [Int32.lt_iff_toInt_lt] at h2
  have e97 : (97 : Int32).toInt = 97 := by decide
  have e : (b - 97).toInt = b.toInt - 97 := by
    rw [Int32.toInt_sub, e97]
    exact bmod_fit (by omega) (by omega)
  have h3 : t.toInt ≤ 4 := by rcases ht with rfl | rfl | rfl <;> decide
  unfold isNt
  rw [Bool.and_eq_true, decide_eq_true_eq, decide_eq_true_eq, Int32.le_iff_toInt_le, Int32.le_iff_toInt_le, e97]
  have e100 : (100 : Int32).toInt = 100 := by decide
  omega
theorem C_has {w : List Int32} (hc : cc2 c) (hI : pI A) (hx : rx y n c h) (k : rcC A c h) (ht : A.1 ≠ 0) (ho : okSong A.1 w = true) (hl : w.all isLt = true) : zPa d mX4_hasSong [.inr (.inr (some c)), .inl (codeS w), .inl (nI w.length)] h (fun v h' => h' = h ∧ v = some (.inl (if (List.range (cI A)).any (fun i => decide (A.2.2.1 i = w)) then 1 else 0))) := by
  intro N
  have sc := hx.sh (pc_sh hc).1
  have sc1 := hx.sh (pc_sh hc).2.1
  have sc2 := hx.sh (pc_sh hc).2.2.1
  have rc9 := hx.2.1 _ _ _ (pc_rf hc).1
  have rc10 := hx.2.1 _ _ _ (pc_rf hc).2.1
  have k4 := k.2.1
  have bI := hI.2.2.1.1
  have tt : A.1 = 2 ∨ A.1 = 3 ∨ A.1 = 4 := hI.1.resolve_left ht
  obtain ⟨w1, w2⟩ := ok_nt tt ho hl
  show zPn N none d mX4_hasSong (0, [(0, .inr (.inr (some c))), (1, .inl (codeS w)), (2, .inl (nI w.length))], [], h) _
  have loop : ∀ (N j : Nat) (ls : zL), zget ls 0 = some (.inr (.inr (some c))) → zget ls 1 = some (.inl (codeS w)) → zget ls 2 = some (.inl (nI w.length)) → zget ls 3 = some (.inl (nI j)) → j ≤ cI A → (∀ i, i < j → A.2.2.1 i ≠ w) → zPn N none d mX4_hasSong (2, ls, [], h) (fun v h' => h' = h ∧ v = some (.inl (if (List.range (cI A)).any (fun i => decide (A.2.2.1 i = w)) then 1 else 0))) := by
    intro N
    induction N with
    | zero => intro j ls _ _ _ _ _ _; exact zPn.zero
    | succ N ih =>
      intro j ls hl0 hl1 hl2 hl3 hj hall
      refine pa_iload_n (pc' := 3) dX4_hasSong_2 hl3 rfl ?_
      refine pa_aload_n (pc' := 4) dX4_hasSong_3 hl0 rfl ?_
      refine pa_getI (pc' := 7) (n := 15) dX4_hasSong_4 fl_4_59 sc (by decide) k4 rfl ?_
      refine pa_icmp (pc' := 38) (pc2 := 10) dX4_hasSong_7 (by decide) rfl (fun cd3 => ?_) (fun cd3 => ?_)
      · have cd3 := zi_nlt (zk_ge_lt cd3)
        rw [nI_toInt (by omega), nI_toInt (by omega)] at cd3
        refine pa_iconst (v := 0) (pc' := 39) dX4_hasSong_38 (by decide) rfl ?_
        refine pa_iret dX4_hasSong_39 rfl rfl ⟨rfl, ?_⟩
        rw [if_neg (fun z => ?_)]
        obtain ⟨i, h1, h2⟩ := List.any_eq_true.mp z
        have h1 := List.mem_range.mp h1
        exact hall i (by omega) (of_decide_eq_true h2)
      · have cd3 := zi_lt (zk_ge_lt cd3)
        rw [nI_toInt (by omega), nI_toInt (by omega)] at cd3
        have hj2 : j < cI A := by omega
        obtain ⟨v1, v2⟩ := k.2.2.2.2.2.2.1 j hj2
        obtain ⟨o1, o2⟩ := hI.2.2.2.2.2.1 j hj2
        obtain ⟨x1, x2⟩ := ok_nt tt o1 o2
        have step : A.2.2.1 j ≠ w → zPn (N + 1) none d mX4_hasSong (32, ls, [], h) (fun v h' => h' = h ∧ v = some (.inl (if (List.range (cI A)).any (fun i => decide (A.2.2.1 i = w)) then 1 else 0))) := by
          intro ne
          refine pa_iinc (pc' := 35) (v := nI (j + 1)) dX4_hasSong_32 hl3 (by decide) (nI_add j 1) rfl rfl ?_
          refine pa_gotos (pc' := 2) dX4_hasSong_35 (by decide) ?_
          refine ih (j + 1) _ (zget_s1 hl0 (by decide) (by simp [zcat])) (zget_s1 hl1 (by decide) (by simp [zcat])) (zget_s1 hl2 (by decide) (by simp [zcat])) zget_s1e (by omega) (fun i hi => ?_)
          rcases Nat.lt_or_ge i j with z | z
          · exact hall i z
          · have : i = j := by omega
            subst this
            exact ne
        refine pa_aload_n (pc' := 11) dX4_hasSong_10 hl0 rfl ?_
        refine pa_getR (pc' := 14) (n := 15) (r := _) dX4_hasSong_11 fl_4_9 sc (by decide) rc9 rfl ?_
        refine pa_iload_n (pc' := 15) dX4_hasSong_14 hl3 rfl ?_
        refine pa_iald (pc' := 16) (n := 7) dX4_hasSong_15 sc1 rfl (fun _ => ?_)
        rw [nI_clamp (by omega), v2]
        refine pa_iload_n (pc' := 17) dX4_hasSong_16 hl1 rfl ?_
        refine pa_icmp (pc' := 32) (pc2 := 20) dX4_hasSong_17 (by decide) rfl (fun cd4 => ?_) (fun cd4 => ?_)
        · have cd4 : ¬ codeS (A.2.2.1 j) = codeS w := by simpa [zcond] using cd4
          exact step (fun z => cd4 (by rw [z]))
        · have cd4 : codeS (A.2.2.1 j) = codeS w := by simpa [zcond] using cd4
          refine pa_aload_n (pc' := 21) dX4_hasSong_20 hl0 rfl ?_
          refine pa_getR (pc' := 24) (n := 15) (r := _) dX4_hasSong_21 fl_4_15 sc (by decide) rc10 rfl ?_
          refine pa_iload_n (pc' := 25) dX4_hasSong_24 hl3 rfl ?_
          refine pa_iald (pc' := 26) (n := 7) dX4_hasSong_25 sc2 rfl (fun _ => ?_)
          rw [nI_clamp (by omega), v1]
          refine pa_iload_n (pc' := 27) dX4_hasSong_26 hl2 rfl ?_
          refine pa_icmp (pc' := 32) (pc2 := 30) dX4_hasSong_27 (by decide) rfl (fun cd5 => ?_) (fun cd5 => ?_)
          · have cd5 : ¬ nI (A.2.2.1 j).length = nI w.length := by simpa [zcond] using cd5
            exact step (fun z => cd5 (by rw [z]))
          · have cd5 : nI (A.2.2.1 j).length = nI w.length := by simpa [zcond] using cd5
            have cd5 := congrArg Int32.toInt cd5
            rw [nI_toInt (by omega), nI_toInt (by omega)] at cd5
            have ew := codeS_inj x1 w1 x2 (by omega) cd4
            refine pa_iconst (v := 1) (pc' := 31) dX4_hasSong_30 (by decide) rfl ?_
            refine pa_iret dX4_hasSong_31 rfl rfl ⟨rfl, ?_⟩
            rw [if_pos (List.any_eq_true.mpr ⟨j, List.mem_range.mpr hj2, decide_eq_true ew⟩)]
  refine pa_iconst (v := nI 0) (pc' := 1) dX4_hasSong_0 (by decide) rfl ?_
  refine pa_istore_n (pc' := 2) dX4_hasSong_1 (by decide) rfl rfl ?_
  exact loop N 0 _ rfl rfl rfl rfl (Nat.zero_le _) (fun i hi => absurd hi (Nat.not_lt_zero i))
end RDZ
