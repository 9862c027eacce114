/-! ways and spouts that were told; lines: what they give -/
section RD1
variable {y : Nat → Int32} {n c d N p m : Nat} {h h' : zH} {A : pA} {nm : Nat → List Int32} {Q : Option zV → zH → Prop}
theorem nI_ne {a b : Nat} (ha : a < 1000) (hb : b < 1000) : nI a = nI b ↔ a = b := by
  refine ⟨fun e => ?_, fun e => by rw [e]⟩
  have := congrArg Int32.toInt e
  rw [nI_toInt (by omega), nI_toInt (by omega)] at this
  omega
theorem C_btw {a b : Nat} (ha : a < 7) (hb : b < 7) (hc : cc2 c) (hI : pI A) (hx : rx y n c h) (k : rcC A c h) : zPa d mX4_wayBetween [.inr (.inr (some c)), .inl (nI a), .inl (nI b)] h (fun v h' => h' = h ∧ ∃ x, v = some (.inl x) ∧ ((x = -2 ∧ (List.range (cW A)).any (joinsB A.2.2.2.1 a b) = false) ∨ (x ≠ -2 ∧ (List.range (cW A)).any (joinsB A.2.2.2.1 a b) = true))) := by
  intro N
  have sc := hx.sh (pc_sh hc).1
  have sc3 := hx.sh (pc_sh hc).2.2.2.1
  have rc11 := hx.2.1 _ _ _ (pc_rf hc).2.2.1
  have k5 := k.2.2.1
  have bW := hI.2.2.1.2.1
  show zPn N none d mX4_wayBetween (0, [(0, .inr (.inr (some c))), (1, .inl (nI a)), (2, .inl (nI b))], [], h) _
  have loop : ∀ (N j : Nat) (ls : zL), zget ls 0 = some (.inr (.inr (some c))) → zget ls 1 = some (.inl (nI a)) → zget ls 2 = some (.inl (nI b)) → zget ls 3 = some (.inl (nI j)) → j ≤ cW A → (∀ i, i < j → joinsB A.2.2.2.1 a b i = false) → zPn N none d mX4_wayBetween (2, ls, [], h) (fun v h' => h' = h ∧ ∃ x, v = some (.inl x) ∧ ((x = -2 ∧ (List.range (cW A)).any (joinsB A.2.2.2.1 a b) = false) ∨ (x ≠ -2 ∧ (List.range (cW A)).any (joinsB A.2.2.2.1 a b) = true))) := by
    intro N
    induction N with
    | zero => intro j ls _ _ _ _ _ _; exact zPn.zero
    | succ N ih =>
      intro j ls hl0 hl1 hl2 hl3 hj hall
      refine pa_iload_n (pc' := 3) dX4_wayBetween_2 hl3 rfl ?_
      refine pa_aload_n (pc' := 4) dX4_wayBetween_3 hl0 rfl ?_
      refine pa_getI (pc' := 7) (n := 15) dX4_wayBetween_4 fl_4_62 sc (by decide) k5 rfl ?_
      refine pa_icmp (pc' := 82) (pc2 := 10) dX4_wayBetween_7 (by decide) rfl (fun cd3 => ?_) (fun cd3 => ?_)
      · have cd3 := zi_nlt (zk_ge_lt cd3)
        rw [nI_toInt (by omega), nI_toInt (by omega)] at cd3
        refine pa_bipush (v := (-2)) (pc' := 84) dX4_wayBetween_82 (by decide) rfl ?_
        refine pa_iret dX4_wayBetween_84 rfl rfl ⟨rfl, -2, rfl, .inl ⟨rfl, ?_⟩⟩
        refine List.any_eq_false.mpr (fun i hi z => ?_)
        have hi := List.mem_range.mp hi
        rw [hall i (by omega)] at z
        exact absurd z (by decide)
      · have cd3 := zi_lt (zk_ge_lt cd3)
        rw [nI_toInt (by omega), nI_toInt (by omega)] at cd3
        have hj2 : j < cW A := by omega
        obtain ⟨v1, v2⟩ := k.2.2.2.2.2.2.2.1 j hj2
        obtain ⟨o1, o2⟩ := hI.2.2.2.2.2.2.1 j hj2
        have sw := hx.sh (pc_way hc (show j < 12 by omega)).1
        have rw_ := hx.2.1 _ _ _ (pc_way hc (show j < 12 by omega)).2
        obtain ⟨w1, w2, ew⟩ : ∃ w1 w2, A.2.2.2.1 j = (w1, w2) := ⟨_, _, rfl⟩
        rw [ew] at v1 v2 o1 o2
        dsimp only at v1 v2 o1 o2
        have aa : ∀ {pc pc' : Nat} {ls : zL} {st : List zV} {Q : Option zV → zH → Prop}, decode cX4_wayBetween pc = .ok (.aaload, 1) → pc + 1 = pc' → zPn (N + 1) none d mX4_wayBetween (pc', ls, .inr (.inr (some (c + 7 + j))) :: st, h) Q → zPn (N + 1) none d mX4_wayBetween (pc, ls, .inl (nI j) :: .inr (.inr (some (c + 3))) :: st, h) Q := by
          intro pc pc' ls st Q hd hp kk
          exact pa_aald hd sc3 ⟨by decide, by decide⟩ (zn_in (by omega) (by omega)) (by rw [nI_clamp (by omega)]; exact rw_) hp kk
        have step : ∀ ls : zL, zget ls 0 = some (.inr (.inr (some c))) → zget ls 1 = some (.inl (nI a)) → zget ls 2 = some (.inl (nI b)) → zget ls 3 = some (.inl (nI j)) → joinsB A.2.2.2.1 a b j = false → zPn (N + 1) none d mX4_wayBetween (76, ls, [], h) (fun v h' => h' = h ∧ ∃ x, v = some (.inl x) ∧ ((x = -2 ∧ (List.range (cW A)).any (joinsB A.2.2.2.1 a b) = false) ∨ (x ≠ -2 ∧ (List.range (cW A)).any (joinsB A.2.2.2.1 a b) = true))) := by
          intro ls hl0 hl1 hl2 hl3 ne
          refine pa_iinc (pc' := 79) (v := nI (j + 1)) dX4_wayBetween_76 hl3 (by decide) (nI_add j 1) rfl rfl ?_
          refine pa_gotos (pc' := 2) dX4_wayBetween_79 (by decide) ?_
          refine ih (j + 1) _ (zget_s1 hl0 (by decide) (by simp [zcat])) (zget_s1 hl1 (by decide) (by simp [zcat])) (zget_s1 hl2 (by decide) (by simp [zcat])) zget_s1e (by omega) (fun i hi => ?_)
          rcases Nat.lt_or_ge i j with z | z
          · exact hall i z
          · have : i = j := by omega
            subst this
            exact ne
        have hit : ∀ ls : zL, zget ls 3 = some (.inl (nI j)) → joinsB A.2.2.2.1 a b j = true → zPn (N + 1) none d mX4_wayBetween (74, ls, [], h) (fun v h' => h' = h ∧ ∃ x, v = some (.inl x) ∧ ((x = -2 ∧ (List.range (cW A)).any (joinsB A.2.2.2.1 a b) = false) ∨ (x ≠ -2 ∧ (List.range (cW A)).any (joinsB A.2.2.2.1 a b) = true))) := by
          intro ls hl3 z
          refine pa_iload_n (pc' := 75) dX4_wayBetween_74 hl3 rfl ?_
          refine pa_iret dX4_wayBetween_75 rfl rfl ⟨rfl, nI j, rfl, .inr ⟨fun e => ?_, List.any_eq_true.mpr ⟨j, List.mem_range.mpr hj2, z⟩⟩⟩
          have := congrArg Int32.toInt e
          rw [nI_toInt (by omega)] at this
          have e : (-2 : Int32).toInt = -2 := by decide
          omega
        have jd : joinsB A.2.2.2.1 a b j = (decide ((w1, w2) = (a, b)) || decide ((w1, w2) = (b, a))) := by unfold joinsB; rw [ew]
        -- the second way about
        have two : ∀ ls : zL, zget ls 0 = some (.inr (.inr (some c))) → zget ls 1 = some (.inl (nI a)) → zget ls 2 = some (.inl (nI b)) → zget ls 3 = some (.inl (nI j)) → ¬ (w1 = a ∧ w2 = b) → zPn (N + 1) none d mX4_wayBetween (48, ls, [], h) (fun v h' => h' = h ∧ ∃ x, v = some (.inl x) ∧ ((x = -2 ∧ (List.range (cW A)).any (joinsB A.2.2.2.1 a b) = false) ∨ (x ≠ -2 ∧ (List.range (cW A)).any (joinsB A.2.2.2.1 a b) = true))) := by
          intro ls hl0 hl1 hl2 hl3 no
          refine pa_aload_n (pc' := 49) dX4_wayBetween_48 hl0 rfl ?_
          refine pa_getR (pc' := 52) (n := 15) (r := _) dX4_wayBetween_49 fl_4_20 sc (by decide) rc11 rfl ?_
          refine pa_iload_n (pc' := 53) dX4_wayBetween_52 hl3 rfl ?_
          refine aa dX4_wayBetween_53 rfl ?_
          refine pa_getI (pc' := 57) (n := 4) dX4_wayBetween_54 fl_4_77 sw (by decide) v1 rfl ?_
          refine pa_iload_n (pc' := 58) dX4_wayBetween_57 hl2 rfl ?_
          refine pa_icmp (pc' := 76) (pc2 := 61) dX4_wayBetween_58 (by decide) rfl (fun cd4 => ?_) (fun cd4 => ?_)
          · have cd4 : ¬ nI w1 = nI b := by simpa [zcond] using cd4
            rw [nI_ne (by omega) (by omega)] at cd4
            exact step ls hl0 hl1 hl2 hl3 (by rw [jd, decide_eq_false (by simp only [Prod.mk.injEq]; exact no), decide_eq_false (by simp only [Prod.mk.injEq]; exact fun z => cd4 z.1)]; rfl)
          · have cd4 : nI w1 = nI b := by simpa [zcond] using cd4
            rw [nI_ne (by omega) (by omega)] at cd4
            refine pa_aload_n (pc' := 62) dX4_wayBetween_61 hl0 rfl ?_
            refine pa_getR (pc' := 65) (n := 15) (r := _) dX4_wayBetween_62 fl_4_20 sc (by decide) rc11 rfl ?_
            refine pa_iload_n (pc' := 66) dX4_wayBetween_65 hl3 rfl ?_
            refine aa dX4_wayBetween_66 rfl ?_
            refine pa_getI (pc' := 70) (n := 4) dX4_wayBetween_67 fl_4_80 sw (by decide) v2 rfl ?_
            refine pa_iload_n (pc' := 71) dX4_wayBetween_70 hl1 rfl ?_
            refine pa_icmp (pc' := 76) (pc2 := 74) dX4_wayBetween_71 (by decide) rfl (fun cd5 => ?_) (fun cd5 => ?_)
            · have cd5 : ¬ nI w2 = nI a := by simpa [zcond] using cd5
              rw [nI_ne (by omega) (by omega)] at cd5
              exact step ls hl0 hl1 hl2 hl3 (by rw [jd, decide_eq_false (by simp only [Prod.mk.injEq]; exact no), decide_eq_false (by simp only [Prod.mk.injEq]; exact fun z => cd5 z.2)]; rfl)
            · have cd5 : nI w2 = nI a := by simpa [zcond] using cd5
              rw [nI_ne (by omega) (by omega)] at cd5
              exact hit ls hl3 (by rw [jd, decide_eq_true (p := (w1, w2) = (b, a)) (by rw [cd4, cd5])]; simp)
        refine pa_aload_n (pc' := 11) dX4_wayBetween_10 hl0 rfl ?_
        refine pa_getR (pc' := 14) (n := 15) (r := _) dX4_wayBetween_11 fl_4_20 sc (by decide) rc11 rfl ?_
        refine pa_iload_n (pc' := 15) dX4_wayBetween_14 hl3 rfl ?_
        refine aa dX4_wayBetween_15 rfl ?_
        refine pa_getI (pc' := 19) (n := 4) dX4_wayBetween_16 fl_4_77 sw (by decide) v1 rfl ?_
        refine pa_iload_n (pc' := 20) dX4_wayBetween_19 hl1 rfl ?_
        refine pa_icmp (pc' := 40) (pc2 := 23) dX4_wayBetween_20 (by decide) rfl (fun cd4 => ?_) (fun cd4 => ?_)
        · have cd4 : ¬ nI w1 = nI a := by simpa [zcond] using cd4
          rw [nI_ne (by omega) (by omega)] at cd4
          refine pa_iconst (v := 0) (pc' := 41) dX4_wayBetween_40 (by decide) rfl ?_
          refine pa_istore (pc' := 43) dX4_wayBetween_41 (by decide) rfl rfl ?_
          refine pa_iload (pc' := 45) dX4_wayBetween_43 zget_s1e rfl ?_
          refine pa_if_f (pc' := 48) dX4_wayBetween_45 (by decide) (by decide) rfl ?_
          exact two _ (zget_s1 hl0 (by decide) (by simp [zcat])) (zget_s1 hl1 (by decide) (by simp [zcat])) (zget_s1 hl2 (by decide) (by simp [zcat])) (zget_s1 hl3 (by decide) (by simp [zcat])) (fun z => cd4 z.1)
        · have cd4 : nI w1 = nI a := by simpa [zcond] using cd4
          rw [nI_ne (by omega) (by omega)] at cd4
          refine pa_aload_n (pc' := 24) dX4_wayBetween_23 hl0 rfl ?_
          refine pa_getR (pc' := 27) (n := 15) (r := _) dX4_wayBetween_24 fl_4_20 sc (by decide) rc11 rfl ?_
          refine pa_iload_n (pc' := 28) dX4_wayBetween_27 hl3 rfl ?_
          refine aa dX4_wayBetween_28 rfl ?_
          refine pa_getI (pc' := 32) (n := 4) dX4_wayBetween_29 fl_4_80 sw (by decide) v2 rfl ?_
          refine pa_iload_n (pc' := 33) dX4_wayBetween_32 hl2 rfl ?_
          refine pa_icmp (pc' := 40) (pc2 := 36) dX4_wayBetween_33 (by decide) rfl (fun cd5 => ?_) (fun cd5 => ?_)
          · have cd5 : ¬ nI w2 = nI b := by simpa [zcond] using cd5
            rw [nI_ne (by omega) (by omega)] at cd5
            refine pa_iconst (v := 0) (pc' := 41) dX4_wayBetween_40 (by decide) rfl ?_
            refine pa_istore (pc' := 43) dX4_wayBetween_41 (by decide) rfl rfl ?_
            refine pa_iload (pc' := 45) dX4_wayBetween_43 zget_s1e rfl ?_
            refine pa_if_f (pc' := 48) dX4_wayBetween_45 (by decide) (by decide) rfl ?_
            exact two _ (zget_s1 hl0 (by decide) (by simp [zcat])) (zget_s1 hl1 (by decide) (by simp [zcat])) (zget_s1 hl2 (by decide) (by simp [zcat])) (zget_s1 hl3 (by decide) (by simp [zcat])) (fun z => cd5 z.2)
          · have cd5 : nI w2 = nI b := by simpa [zcond] using cd5
            rw [nI_ne (by omega) (by omega)] at cd5
            refine pa_iconst (v := 1) (pc' := 37) dX4_wayBetween_36 (by decide) rfl ?_
            refine pa_goto (pc' := 41) dX4_wayBetween_37 (by decide) ?_
            refine pa_istore (pc' := 43) dX4_wayBetween_41 (by decide) rfl rfl ?_
            refine pa_iload (pc' := 45) dX4_wayBetween_43 zget_s1e rfl ?_
            refine pa_if_t (pc' := 74) dX4_wayBetween_45 (by decide) (by decide) ?_
            exact hit _ (zget_s1 hl3 (by decide) (by simp [zcat])) (by rw [jd, decide_eq_true (p := (w1, w2) = (a, b)) (by rw [cd4, cd5])]; rfl)
  refine pa_iconst (v := nI 0) (pc' := 1) dX4_wayBetween_0 (by decide) rfl ?_
  refine pa_istore_n (pc' := 2) dX4_wayBetween_1 (by decide) rfl rfl ?_
  exact loop N 0 _ rfl rfl rfl rfl (Nat.zero_le _) (fun i hi => absurd hi (Nat.not_lt_zero i))
theorem least_no {sp : Nat → Nat × Int32} {w : Nat} : ∀ {k : Nat}, (∀ j, j < k → (sp j).1 ≠ w) → least sp w k = 0
  | 0, _ => rfl
  | k + 1, h => by
    unfold least
    rw [if_neg (h k (by omega))]
    exact least_no (fun j hj => h j (by omega))
theorem least_at {sp : Nat → Nat × Int32} {w i : Nat} : ∀ {k : Nat}, i < k → (sp i).1 = w → (∀ j, i < j → j < k → (sp j).1 ≠ w) → least sp w k = (sp i).2 + 1
  | 0, h, _, _ => absurd h (Nat.not_lt_zero i)
  | k + 1, h, e, hn => by
    unfold least
    by_cases c : k = i
    · subst c
      rw [if_pos e]
    · rw [if_neg (hn k (by omega) (by omega))]
      exact least_at (by omega) e (fun j h1 h2 => hn j h1 (by omega))
theorem C_last {w : Nat} (hw : w < 5) (hc : cc2 c) (hI : pI A) (hx : rx y n c h) (k : rcC A c h) : zPa d mX4_lastSpoutOf [.inr (.inr (some c)), .inl (nI w)] h (fun v h' => h' = h ∧ ∃ x, v = some (.inl x) ∧ ((x = -2 ∧ ∀ j, j < cS A → (A.2.2.2.2.1 j).1 ≠ w) ∨ ∃ i, i < cS A ∧ x = nI i ∧ (A.2.2.2.2.1 i).1 = w ∧ ∀ j, i < j → j < cS A → (A.2.2.2.2.1 j).1 ≠ w)) := by
  intro N
  have sc := hx.sh (pc_sh hc).1
  have sc6 := hx.sh (pc_sh hc).2.2.2.2.2.2
  have rc14 := hx.2.1 _ _ _ (pc_rf hc).2.2.2.2.2
  have k8 := k.2.2.2.2.2.1
  have bS := hI.2.2.1.2.2.2.2
  show zPn N none d mX4_lastSpoutOf (0, [(0, .inr (.inr (some c))), (1, .inl (nI w))], [], h) _
  have no : ∀ (N : Nat) (ls : zL) (x : Int32), x.toInt < 0 → zget ls 2 = some (.inl x) → (∀ j, j < cS A → (A.2.2.2.2.1 j).1 ≠ w) → zPn N none d mX4_lastSpoutOf (7, ls, [], h) (fun v h' => h' = h ∧ ∃ x, v = some (.inl x) ∧ ((x = -2 ∧ ∀ j, j < cS A → (A.2.2.2.2.1 j).1 ≠ w) ∨ ∃ i, i < cS A ∧ x = nI i ∧ (A.2.2.2.2.1 i).1 = w ∧ ∀ j, i < j → j < cS A → (A.2.2.2.2.1 j).1 ≠ w)) := by
    intro N ls x hx0 hl2 hall
    refine pa_iload_n (pc' := 8) dX4_lastSpoutOf_7 hl2 rfl ?_
    refine pa_if_t (pc' := 32) dX4_lastSpoutOf_8 (zj_lt (by rw [show (0 : Int32).toInt = 0 by decide]; exact hx0)) (by decide) ?_
    refine pa_bipush (v := (-2)) (pc' := 34) dX4_lastSpoutOf_32 (by decide) rfl ?_
    exact pa_iret dX4_lastSpoutOf_34 rfl rfl ⟨rfl, -2, rfl, .inl ⟨rfl, hall⟩⟩
  have loop : ∀ (N j : Nat) (ls : zL), zget ls 0 = some (.inr (.inr (some c))) → zget ls 1 = some (.inl (nI w)) → zget ls 2 = some (.inl (nI j)) → j < cS A → (∀ i, j < i → i < cS A → (A.2.2.2.2.1 i).1 ≠ w) → zPn N none d mX4_lastSpoutOf (7, ls, [], h) (fun v h' => h' = h ∧ ∃ x, v = some (.inl x) ∧ ((x = -2 ∧ ∀ j, j < cS A → (A.2.2.2.2.1 j).1 ≠ w) ∨ ∃ i, i < cS A ∧ x = nI i ∧ (A.2.2.2.2.1 i).1 = w ∧ ∀ j, i < j → j < cS A → (A.2.2.2.2.1 j).1 ≠ w)) := by
    intro N
    induction N with
    | zero => intro j ls _ _ _ _ _; exact zPn.zero
    | succ N ih =>
      intro j ls hl0 hl1 hl2 hj hall
      obtain ⟨v1, v2⟩ := k.2.2.2.2.2.2.2.2.1 j hj
      have o1 := hI.2.2.2.2.2.2.2 j hj
      have sw := hx.sh (pc_spt hc (show j < 8 by omega)).1
      have rw_ := hx.2.1 _ _ _ (pc_spt hc (show j < 8 by omega)).2
      refine pa_iload_n (pc' := 8) dX4_lastSpoutOf_7 hl2 rfl ?_
      refine pa_if_f (pc' := 11) dX4_lastSpoutOf_8 (zj_nlt (by rw [show (0 : Int32).toInt = 0 by decide, nI_toInt (by omega)]; omega)) (by decide) rfl ?_
      refine pa_aload_n (pc' := 12) dX4_lastSpoutOf_11 hl0 rfl ?_
      refine pa_getR (pc' := 15) (n := 15) (r := _) dX4_lastSpoutOf_12 fl_4_38 sc (by decide) rc14 rfl ?_
      refine pa_iload_n (pc' := 16) dX4_lastSpoutOf_15 hl2 rfl ?_
      refine pa_aald (pc' := 17) dX4_lastSpoutOf_16 sc6 ⟨by decide, by decide⟩ (zn_in (by omega) (by omega)) (by rw [nI_clamp (by omega)]; exact rw_) rfl ?_
      refine pa_getI (pc' := 20) (n := 3) dX4_lastSpoutOf_17 fl_4_83 sw (by decide) v1 rfl ?_
      refine pa_iload_n (pc' := 21) dX4_lastSpoutOf_20 hl1 rfl ?_
      refine pa_icmp (pc' := 26) (pc2 := 24) dX4_lastSpoutOf_21 (by decide) rfl (fun cd4 => ?_) (fun cd4 => ?_)
      · have cd4 : ¬ nI (A.2.2.2.2.1 j).1 = nI w := by simpa [zcond] using cd4
        rw [nI_ne (by omega) (by omega)] at cd4
        have all2 : ∀ i, j ≤ i → i < cS A → (A.2.2.2.2.1 i).1 ≠ w := fun i h1 h2 => by
          rcases Nat.lt_or_ge j i with z | z
          · exact hall i z h2
          · have : i = j := by omega
            subst this
            exact cd4
        cases j with
        | zero =>
          refine pa_iinc (pc' := 29) (v := -1) dX4_lastSpoutOf_26 hl2 (by decide) (by decide) rfl rfl ?_
          refine pa_gotos (pc' := 7) dX4_lastSpoutOf_29 (by decide) ?_
          exact no N _ (-1) (by decide) zget_s1e (fun i hi => all2 i (Nat.zero_le _) hi)
        | succ j =>
          refine pa_iinc (pc' := 29) (v := nI j) dX4_lastSpoutOf_26 hl2 (by decide) (by
            have := nI_sub (a := j + 1) (b := 1) (by omega)
            rw [Nat.add_sub_cancel] at this
            rw [← this, Int32.sub_eq_add_neg]
            rfl) rfl rfl ?_
          refine pa_gotos (pc' := 7) dX4_lastSpoutOf_29 (by decide) ?_
          exact ih j _ (zget_s1 hl0 (by decide) (by simp [zcat])) (zget_s1 hl1 (by decide) (by simp [zcat])) zget_s1e (by omega) (fun i h1 h2 => all2 i (by omega) h2)
      · have cd4 : nI (A.2.2.2.2.1 j).1 = nI w := by simpa [zcond] using cd4
        rw [nI_ne (by omega) (by omega)] at cd4
        refine pa_iload_n (pc' := 25) dX4_lastSpoutOf_24 hl2 rfl ?_
        exact pa_iret dX4_lastSpoutOf_25 rfl rfl ⟨rfl, nI j, rfl, .inr ⟨j, hj, rfl, cd4, hall⟩⟩
  refine pa_aload_n (pc' := 1) dX4_lastSpoutOf_0 rfl rfl ?_
  refine pa_getI (pc' := 4) (n := 15) dX4_lastSpoutOf_1 fl_4_71 sc (by decide) k8 rfl ?_
  cases eS : cS A with
  | zero =>
    rw [eS] at no
    refine pa_iconst (v := 1) (pc' := 5) dX4_lastSpoutOf_4 (by decide) rfl ?_
    refine pa_isub (pc' := 6) (v := -1) dX4_lastSpoutOf_5 (by decide) rfl ?_
    refine pa_istore_n (pc' := 7) dX4_lastSpoutOf_6 (by decide) rfl rfl ?_
    exact no N _ (-1) (by decide) rfl (fun j hj => absurd hj (Nat.not_lt_zero j))
  | succ s =>
    rw [eS] at loop
    refine pa_iconst (v := nI 1) (pc' := 5) dX4_lastSpoutOf_4 (by decide) rfl ?_
    refine pa_isub (pc' := 6) (v := nI s) dX4_lastSpoutOf_5 (by have := nI_sub (a := s + 1) (b := 1) (by omega); rw [Nat.add_sub_cancel] at this; exact this) rfl ?_
    refine pa_istore_n (pc' := 7) dX4_lastSpoutOf_6 (by decide) rfl rfl ?_
    exact loop N s _ rfl rfl rfl (by omega) (fun i h1 h2 => by omega)
/-- a write into the draft that touches nothing told yet -/
def wrOK (A : pA) (c a j : Nat) : Prop := a < 82 ∧ a ≠ 1 ∧ (a = c → j = 1 ∨ j = 2 ∨ j = 3) ∧ (a = c + 1 → cI A ≤ j) ∧ (a = c + 2 → cI A ≤ j) ∧ (∀ k, k < cW A → a ≠ c + 7 + k) ∧ (∀ k, k < cS A → a ≠ c + 32 + k) ∧ (∀ i, A.2.2.1 (1000 + i) ≠ [] → okX A i → ¬ (c + oX i = a ∧ sX i = j))
theorem rs.wr {a j : Nat} {v : Int32} (K : rs y n c A nm m p h) (w : wrOK A c a j) : rs y n c A nm m p (zsI h a j v) := by
  obtain ⟨w1, w2, w3, w4, w5, w6, w7, w8⟩ := w
  obtain ⟨k1, k2, k3, k4, k5⟩ := K
  refine ⟨⟨k1.1, k1.2.1, k1.2.2.1, ?_, ?_, k1.2.2.2.2.2⟩, ?_, k3, ?_, k5.fr (zsI_no (by omega)) (fun j => zsI_no (by omega)) (fun j => zsI_no (by omega)) rfl⟩
  · funext i
    rw [zsI_no (by omega)]
    exact congrFun k1.2.2.2.1 i
  · rw [zsI_no (by omega)]
    exact k1.2.2.2.2.1
  · rw [zsI_no (by omega)]
    exact k2
  · obtain ⟨q0, q4, q5, q6, q7, q8, qs, qw, qp, qx⟩ := k4
    refine ⟨by rw [zsI_no (by omega)]; exact q0, by rw [zsI_no (by omega)]; exact q4, by rw [zsI_no (by omega)]; exact q5, by rw [zsI_no (by omega)]; exact q6, by rw [zsI_no (by omega)]; exact q7, by rw [zsI_no (by omega)]; exact q8, fun i hi => ?_, fun i hi => ?_, fun i hi => ?_, qx.wr w8⟩
    · rw [zsI_no (by omega), zsI_no (by omega)]
      exact qs i hi
    · have := w6 i hi
      rw [zsI_no (by omega), zsI_no (by omega)]
      exact qw i hi
    · have := w7 i hi
      rw [zsI_no (by omega), zsI_no (by omega)]
      exact qp i hi
def lnR (y : Nat → Int32) (n c : Nat) (r : sR) (v : Option zV) (h' : zH) : Prop := match r with
  | .inl e => v = some (.inl 0) ∧ fl e h'
  | .inr q => v = some (.inl 1) ∧ rs y n c q.1 q.1.2.1 (cI q.1 + cH q.1 + cB q.1) q.2 h' ∧ pI q.1
theorem lnl {r : sR} {e : sF} (he : r = .inl e) (hf : fl e h') : lnR y n c r (some (.inl 0)) h' := by rw [he]; exact ⟨rfl, hf⟩
theorem lnr {r : sR} {A : pA} {q : Nat} (he : r = .inr (A, q)) (K : rs y n c A A.2.1 (cI A + cH A + cB A) q h') (hI : pI A) : lnR y n c r (some (.inl 1)) h' := by rw [he]; exact ⟨rfl, K, hI⟩
end RD1
