/-! words: X12_isWord, X5_isToken -/
def strOk (as : List Nat) : Bool := as.all (fun a => match zsc a with
  | some bs => Nat.ble 1 bs.length && Nat.ble bs.length 8
  | none => false)
theorem strOk_in {as : List Nat} {a : Nat} (h : strOk as = true) (ha : a ∈ as) : ∃ bs, zsc a = some bs ∧ 1 ≤ bs.length ∧ bs.length ≤ 8 := by
  have := List.all_eq_true.mp h a ha
  revert this
  cases zsc a with
  | none => intro z; cases z
  | some bs =>
    intro z
    simp only [Bool.and_eq_true, Nat.ble_eq] at z
    exact ⟨bs, rfl, z⟩
section HIW
variable {d : Nat} {h : zH} {a : Nat} {bs : List Int32}
def iwQ (h : zH) (L : Nat) (v : Option zV) (h' : zH) : Prop := h' = h ∧ (v = some (.inl 0) ∨ (v = some (.inl 1) ∧ h.2.1 196 13 = 0 ∧ h.2.1 196 6 = 2 ∧ h.2.1 196 8 = nI L))
theorem iw_loop (s0 : zsh h 196 = some (12, 39)) (s2 : zsh h 198 = some (14, 8)) (r12 : h.2.2.2.1 196 12 = some 198) (hb : zsc a = some bs) (hL : bs.length ≤ 8) (hns : h.2.1 196 8 = nI bs.length) (hf : h.2.1 196 13 = 0) (ht : h.2.1 196 6 = 2) :
    ∀ (r k : Nat) (b : Int32) (ls : zL), k + r = bs.length → zget ls 0 = some (.inr (.inr (some 196))) → zget ls 1 = some (.inr (.inr (some a))) → zget ls 2 = some (.inl b) → zget ls 3 = some (.inl (nI k)) → (b = 0 ∨ b = 1) → zEx none d mX12_isWord (32, ls, [], h) (iwQ h bs.length) := by
  intro r
  induction r with
  | zero =>
    intro k b ls hk hl0 hl1 hl2 hl3 hb01
    refine ex_iload_n (pc' := 33) dX12_isWord_32 hl3 rfl ?_
    refine ex_aload_n (pc' := 34) dX12_isWord_33 hl0 rfl ?_
    refine ex_getI (pc' := 37) (n := 39) dX12_isWord_34 fl_12_84 s0 (by decide) rfl rfl ?_
    refine ex_icmp_t (pc' := 70) dX12_isWord_37 (by rw [hns]; exact zn_ge (by omega) (by omega)) (by decide) ?_
    refine ex_iload_n (pc' := 71) dX12_isWord_70 hl2 rfl ?_
    refine ex_iret dX12_isWord_71 rfl (by rcases hb01 with e | e <;> subst e <;> decide) ⟨rfl, ?_⟩
    rcases hb01 with e | e
    · exact .inl (by rw [e])
    · exact .inr ⟨by rw [e], hf, ht, hns⟩
  | succ r ih =>
    intro k b ls hk hl0 hl1 hl2 hl3 hb01
    have go : ∀ (v : Int32), (v = 0 ∨ v = 1) → zEx none d mX12_isWord (63, ls, [.inl v], h) (iwQ h bs.length) := by
      intro v hv
      refine ex_istore_n (pc' := 64) dX12_isWord_63 (by decide) rfl rfl ?_
      refine ex_iinc (pc' := 67) (v := nI (k + 1)) dX12_isWord_64 (zget_s1 hl3 (by decide) (by simp [zcat])) (by decide) (nI_1 k) rfl rfl ?_
      refine ex_goto (pc' := 32) dX12_isWord_67 (by decide) ?_
      exact ih (k + 1) v _ (by omega) (zget_s1 (zget_s1 hl0 (by decide) (by decide)) (by decide) (by decide)) (zget_s1 (zget_s1 hl1 (by decide) (by simp [zcat])) (by decide) (by simp [zcat])) (zget_s1 zget_s1e (by decide) (by simp [zcat])) zget_s1e hv
    refine ex_iload_n (pc' := 33) dX12_isWord_32 hl3 rfl ?_
    refine ex_aload_n (pc' := 34) dX12_isWord_33 hl0 rfl ?_
    refine ex_getI (pc' := 37) (n := 39) dX12_isWord_34 fl_12_84 s0 (by decide) rfl rfl ?_
    refine ex_icmp_f (pc' := 40) dX12_isWord_37 (by rw [hns]; exact zn_nge (by omega) (by omega)) (by decide) rfl ?_
    refine ex_iload_n (pc' := 41) dX12_isWord_40 hl2 rfl ?_
    refine ex_if (pc' := 62) (pc2 := 44) dX12_isWord_41 (by decide) rfl (fun c => ?_) (fun c => ?_)
    · refine ex_iconst (v := 0) (pc' := 63) dX12_isWord_62 (by decide) rfl ?_
      exact go 0 (.inl rfl)
    · refine ex_aload_n (pc' := 45) dX12_isWord_44 hl0 rfl ?_
      refine ex_getR (pc' := 48) (n := 39) (r := 198) dX12_isWord_45 fl_12_17 s0 (by decide) r12 rfl ?_
      refine ex_iload_n (pc' := 49) dX12_isWord_48 hl3 rfl ?_
      refine ex_iald (pc' := 50) (n := 8) dX12_isWord_49 s2 (zn_in (by omega) (by omega)) rfl rfl ?_
      refine ex_aload_n (pc' := 51) dX12_isWord_50 hl1 rfl ?_
      refine ex_iload_n (pc' := 52) dX12_isWord_51 hl3 rfl ?_
      refine ex_strchar (pc' := 55) dX12_isWord_52 ml_12_113 hb (zble rfl) (zn_in (by omega) (by omega)) rfl ?_
      refine ex_icmp (pc' := 62) (pc2 := 58) dX12_isWord_55 (by decide) rfl (fun c => ?_) (fun c => ?_)
      · refine ex_iconst (v := 0) (pc' := 63) dX12_isWord_62 (by decide) rfl ?_
        exact go 0 (.inl rfl)
      · refine ex_iconst (v := 1) (pc' := 59) dX12_isWord_58 (by decide) rfl ?_
        refine ex_goto (pc' := 63) dX12_isWord_59 (by decide) ?_
        exact go 1 (.inr rfl)
theorem iw_run (s0 : zsh h 196 = some (12, 39)) (s2 : zsh h 198 = some (14, 8)) (r12 : h.2.2.2.1 196 12 = some 198) (hb : zsc a = some bs) (hL : bs.length ≤ 8) : zEx none d mX12_isWord (0, [(0, .inr (.inr (some 196))), (1, .inr (.inr (some a)))], [], h) (iwQ h bs.length) := by
  have no : zEx none d mX12_isWord (26, [(0, .inr (.inr (some 196))), (1, .inr (.inr (some a)))], [], h) (iwQ h bs.length) := by
    refine ex_iconst (v := 0) (pc' := 27) dX12_isWord_26 (by decide) rfl ?_
    exact ex_iret dX12_isWord_27 rfl (by decide) ⟨rfl, .inl rfl⟩
  refine ex_aload_n (pc' := 1) dX12_isWord_0 rfl rfl ?_
  refine ex_getI (pc' := 4) (n := 39) dX12_isWord_1 fl_12_100 s0 (by decide) rfl rfl ?_
  refine ex_if (pc' := 26) (pc2 := 7) dX12_isWord_4 (by decide) rfl (fun c => no) (fun c => ?_)
  have hf : h.2.1 196 13 = 0 := by simpa [zcond] using c
  refine ex_aload_n (pc' := 8) dX12_isWord_7 rfl rfl ?_
  refine ex_getI (pc' := 11) (n := 39) dX12_isWord_8 fl_12_90 s0 (by decide) rfl rfl ?_
  refine ex_iconst (v := 2) (pc' := 12) dX12_isWord_11 (by decide) rfl ?_
  refine ex_icmp (pc' := 26) (pc2 := 15) dX12_isWord_12 (by decide) rfl (fun c => no) (fun c => ?_)
  have ht : h.2.1 196 6 = 2 := by simpa [zcond] using c
  refine ex_aload_n (pc' := 16) dX12_isWord_15 rfl rfl ?_
  refine ex_getI (pc' := 19) (n := 39) dX12_isWord_16 fl_12_84 s0 (by decide) rfl rfl ?_
  refine ex_aload_n (pc' := 20) dX12_isWord_19 rfl rfl ?_
  refine ex_strlen (pc' := 23) dX12_isWord_20 ml_12_107 hb (zble rfl) rfl ?_
  refine ex_icmp (pc' := 28) (pc2 := 26) dX12_isWord_23 (by decide) rfl (fun c => ?_) (fun c => no)
  have hns : h.2.1 196 8 = nI bs.length := by simpa [zcond] using c
  refine ex_iconst (v := 1) (pc' := 29) dX12_isWord_28 (by decide) rfl ?_
  refine ex_istore_n (pc' := 30) dX12_isWord_29 (by decide) rfl rfl ?_
  refine ex_iconst (v := 0) (pc' := 31) dX12_isWord_30 (by decide) rfl ?_
  refine ex_istore_n (pc' := 32) dX12_isWord_31 (by decide) rfl rfl ?_
  exact iw_loop s0 s2 r12 hb hL hns hf ht bs.length 0 1 _ (by omega) rfl rfl rfl rfl (.inr rfl)
end HIW
theorem iw_all {h : zH} {d : Nat} {as : List Nat} {a : Nat} (ho : hOK wd h) (hs : strOk as = true) (ha : a ∈ as) : ∃ L : Nat, 1 ≤ L ∧ L ≤ 8 ∧ zEx none d mX12_isWord (0, [(0, .inr (.inr (some 196))), (1, .inr (.inr (some a)))], [], h) (iwQ h L) := by
  obtain ⟨bs, hb, h1, h8⟩ := strOk_in hs ha
  exact ⟨bs.length, h1, h8, iw_run (ho.1 196 (12, 39) (by decide +kernel)) (ho.1 198 (14, 8) (by decide +kernel)) (ho.2.2.1 196 12 198 (by decide +kernel)) hb h8⟩
theorem S_iw {as : List Nat} {pre : List ((Nat × Nat) × aI) × aU} {D : Nat} {md : aMd} (hs : strOk as = true) : aSpec wd (mX12_isWord, [.inr (.inl [196]), .inr (.inl as)], pre, [(some (.inl [(0, 0, 1)]), [], [], []), (some (.inl [(1, 1, 1)]), [], [((196, 6), [(2, 2, 1)]), ((196, 13), [(0, 0, 1)]), ((196, 8), [(1, 8, 1)])], [])], md, [], D) := by
  intro d hd vs h hargs hok hpre
  match vs, hargs with
  | [v0, v1], ⟨⟨q0, m0, e0⟩, ⟨q1, m1, e1⟩, _⟩ =>
    have m0 : q0 = 196 := by simpa using m0
    subst e0; subst e1; subst m0
    obtain ⟨L, l1, l8, hr⟩ := iw_all (d := d) hok hs m1
    refine zEx.mono hr (fun v h' hq => ?_)
    obtain ⟨rfl, hv⟩ := hq
    refine ⟨hok, hFr.rf, ?_⟩
    rcases hv with e | ⟨e, f1, f2, f3⟩
    · exact ⟨_, List.mem_cons_self, ⟨0, e, aR1_in (lo := 0) (hi := 0) (by decide) (by decide)⟩, trivial, (fun q hq => nomatch hq), (fun q hq => nomatch hq)⟩
    · refine ⟨_, List.mem_cons_of_mem _ List.mem_cons_self, ⟨1, e, aR1_in (lo := 1) (hi := 1) (by decide) (by decide)⟩, trivial, (fun q hq => ?_), (fun q hq => nomatch hq)⟩
      simp only [List.mem_cons, List.not_mem_nil, or_false] at hq
      rcases hq with rfl | rfl | rfl
      · show aIn (h'.2.1 196 6).toInt [(2, 2, 1)]
        rw [f2]
        exact aR1_in (lo := 2) (hi := 2) (by decide) (by decide)
      · show aIn (h'.2.1 196 13).toInt [(0, 0, 1)]
        rw [f1]
        exact aR1_in (lo := 0) (hi := 0) (by decide) (by decide)
      · show aIn (h'.2.1 196 8).toInt [(1, 8, 1)]
        rw [f3, nI_toInt (by omega)]
        exact aR1_in (lo := 1) (hi := 8) (by omega) (by omega)
theorem S_iw0 {as : List Nat} {A : aI} {D : Nat} {md : aMd} (hs : strOk as = true) (hA : aDis A [(2, 2, 1)] = true) : aSpec wd (mX12_isWord, [.inr (.inl [196]), .inr (.inl as)], ([((196, 6), A)], []), [(some (.inl [(0, 0, 1)]), [], [], [])], md, [], D) := by
  intro d hd vs h hargs hok hpre
  match vs, hargs with
  | [v0, v1], ⟨⟨q0, m0, e0⟩, ⟨q1, m1, e1⟩, _⟩ =>
    have m0 : q0 = 196 := by simpa using m0
    subst e0; subst e1; subst m0
    obtain ⟨L, l1, l8, hr⟩ := iw_all (d := d) hok hs m1
    refine zEx.mono hr (fun v h' hq => ?_)
    obtain ⟨rfl, hv⟩ := hq
    refine ⟨hok, hFr.rf, ?_⟩
    rcases hv with e | ⟨e, f1, f2, f3⟩
    · exact ⟨_, List.mem_cons_self, ⟨0, e, aR1_in (lo := 0) (hi := 0) (by decide) (by decide)⟩, trivial, (fun q hq => nomatch hq), (fun q hq => nomatch hq)⟩
    · have := hpre.1 _ List.mem_cons_self
      rw [show h'.2.1 ((196, 6), A).1.1 ((196, 6), A).1.2 = 2 from f2] at this
      exact (aDis_no hA this (aR1_in (lo := 2) (hi := 2) (by decide) (by decide))).elim
section HIT
variable {d : Nat} {h : zH} {a : Nat} {bs : List Int32} {s : Nat}
theorem it_loop (s0 : zsh h 82 = some (5, 13)) (s1 : zsh h 1 = some (13, 1000)) (r0 : h.2.2.2.1 82 0 = some 1) (hb : zsc a = some bs) (hL : bs.length ≤ 8) (hst : h.2.1 82 4 = nI s) (hs : s + bs.length ≤ 1000) :
    ∀ (r k : Nat) (ls : zL), k + r = bs.length → zget ls 0 = some (.inr (.inr (some 82))) → zget ls 1 = some (.inr (.inr (some a))) → zget ls 2 = some (.inl (nI k)) → zEx none d mX5_isToken (28, ls, [], h) (fun v h' => h' = h ∧ (v = some (.inl 0) ∨ v = some (.inl 1))) := by
  intro r
  induction r with
  | zero =>
    intro k ls hk hl0 hl1 hl2
    refine ex_iload_n (pc' := 29) dX5_isToken_28 hl2 rfl ?_
    refine ex_aload_n (pc' := 30) dX5_isToken_29 hl1 rfl ?_
    refine ex_strlen (pc' := 33) dX5_isToken_30 ml_5_269 hb (zble rfl) rfl ?_
    refine ex_icmp_t (pc' := 63) dX5_isToken_33 (zn_ge (by omega) (by omega)) (by decide) ?_
    refine ex_iconst (v := 1) (pc' := 64) dX5_isToken_63 (by decide) rfl ?_
    exact ex_iret dX5_isToken_64 rfl (by decide) ⟨rfl, .inr rfl⟩
  | succ r ih =>
    intro k ls hk hl0 hl1 hl2
    refine ex_iload_n (pc' := 29) dX5_isToken_28 hl2 rfl ?_
    refine ex_aload_n (pc' := 30) dX5_isToken_29 hl1 rfl ?_
    refine ex_strlen (pc' := 33) dX5_isToken_30 ml_5_269 hb (zble rfl) rfl ?_
    refine ex_icmp_f (pc' := 36) dX5_isToken_33 (zn_nge (by omega) (by omega)) (by decide) rfl ?_
    refine ex_aload_n (pc' := 37) dX5_isToken_36 hl0 rfl ?_
    refine ex_getR (pc' := 40) (n := 13) (r := 1) dX5_isToken_37 fl_5_47 s0 (by decide) r0 rfl ?_
    refine ex_aload_n (pc' := 41) dX5_isToken_40 hl0 rfl ?_
    refine ex_getI (pc' := 44) (n := 13) (v := nI s) dX5_isToken_41 fl_5_21 s0 (by decide) hst rfl ?_
    refine ex_iload_n (pc' := 45) dX5_isToken_44 hl2 rfl ?_
    refine ex_iadd (pc' := 46) (v := nI (s + k)) dX5_isToken_45 (nI_add _ _) rfl ?_
    refine ex_bald (pc' := 47) (n := 1000) dX5_isToken_46 s1 (zn_in (by omega) (by omega)) rfl rfl ?_
    refine ex_aload_n (pc' := 48) dX5_isToken_47 hl1 rfl ?_
    refine ex_iload_n (pc' := 49) dX5_isToken_48 hl2 rfl ?_
    refine ex_strchar (pc' := 52) dX5_isToken_49 ml_5_274 hb (zble rfl) (zn_in (by omega) (by omega)) rfl ?_
    refine ex_icmp (pc' := 57) (pc2 := 55) dX5_isToken_52 (by decide) rfl (fun c => ?_) (fun c => ?_)
    · refine ex_iinc (pc' := 60) (v := nI (k + 1)) dX5_isToken_57 hl2 (by decide) (nI_1 k) rfl rfl ?_
      refine ex_goto (pc' := 28) dX5_isToken_60 (by decide) ?_
      exact ih (k + 1) _ (by omega) (zget_s1 hl0 (by decide) (by decide)) (zget_s1 hl1 (by decide) (by simp [zcat])) zget_s1e
    · refine ex_iconst (v := 0) (pc' := 56) dX5_isToken_55 (by decide) rfl ?_
      exact ex_iret dX5_isToken_56 rfl (by decide) ⟨rfl, .inl rfl⟩
end HIT
theorem S_it {as : List Nat} {D : Nat} {pre : List ((Nat × Nat) × aI) × aU} (hs : strOk as = true) : aSpec wd (mX5_isToken, [.inr (.inl [82]), .inr (.inl as)], pre, [(some (.inl [(0, 0, 1)]), [], [], []), (some (.inl [(1, 1, 1)]), [], [], [])], [], [], D) := by
  intro d hd vs h hargs hok hpre
  match vs, hargs with
  | [v0, v1], ⟨⟨q0, m0, e0⟩, ⟨a, m1, e1⟩, _⟩ =>
    have m0 : q0 = 82 := by simpa using m0
    subst e0; subst e1; subst m0
    obtain ⟨bs, hb, h1, h8⟩ := strOk_in hs m1
    have s0 : zsh h 82 = some (5, 13) := hok.1 82 (5, 13) (by decide +kernel)
    have s1 : zsh h 1 = some (13, 1000) := hok.1 1 (13, 1000) (by decide +kernel)
    have r0 : h.2.2.2.1 82 0 = some 1 := hok.2.2.1 82 0 1 (by decide +kernel)
    have h2 := aHull_in (aLe_in (B := [(0, 1000, 1)]) (by decide +kernel) (hok.2.1 82 2))
    have h4 := aHull_in (aLe_in (B := [(0, 1000, 1)]) (by decide +kernel) (hok.2.1 82 4))
    simp only [aHull] at h2 h4
    have main : zEx none d mX5_isToken (0, [(0, .inr (.inr (some 82))), (1, .inr (.inr (some a)))], [], h) (fun v h' => h' = h ∧ (v = some (.inl 0) ∨ v = some (.inl 1))) := by
      have no : zEx none d mX5_isToken (24, [(0, .inr (.inr (some 82))), (1, .inr (.inr (some a)))], [], h) (fun v h' => h' = h ∧ (v = some (.inl 0) ∨ v = some (.inl 1))) := by
        refine ex_iconst (v := 0) (pc' := 25) dX5_isToken_24 (by decide) rfl ?_
        exact ex_iret dX5_isToken_25 rfl (by decide) ⟨rfl, .inl rfl⟩
      refine ex_aload_n (pc' := 1) dX5_isToken_0 rfl rfl ?_
      refine ex_getI (pc' := 4) (n := 13) dX5_isToken_1 fl_5_18 s0 (by decide) rfl rfl ?_
      refine ex_iconst (v := 1) (pc' := 5) dX5_isToken_4 (by decide) rfl ?_
      refine ex_icmp (pc' := 24) (pc2 := 8) dX5_isToken_5 (by decide) rfl (fun c => no) (fun c => ?_)
      refine ex_aload_n (pc' := 9) dX5_isToken_8 rfl rfl ?_
      refine ex_getI (pc' := 12) (n := 13) dX5_isToken_9 fl_5_15 s0 (by decide) rfl rfl ?_
      refine ex_aload_n (pc' := 13) dX5_isToken_12 rfl rfl ?_
      refine ex_getI (pc' := 16) (n := 13) dX5_isToken_13 fl_5_21 s0 (by decide) rfl rfl ?_
      refine ex_isub (pc' := 17) dX5_isToken_16 rfl rfl ?_
      refine ex_aload_n (pc' := 18) dX5_isToken_17 rfl rfl ?_
      refine ex_strlen (pc' := 21) dX5_isToken_18 ml_5_269 hb (zble rfl) rfl ?_
      refine ex_icmp (pc' := 26) (pc2 := 24) dX5_isToken_21 (by decide) rfl (fun c => ?_) (fun c => no)
      have c : h.2.1 82 2 - h.2.1 82 4 = nI bs.length := by simpa [zcond] using c
      have c2 := congrArg Int32.toInt c
      rw [Int32.toInt_sub, bmod_fit (by omega) (by omega), nI_toInt (by omega)] at c2
      refine ex_iconst (v := 0) (pc' := 27) dX5_isToken_26 (by decide) rfl ?_
      refine ex_istore_n (pc' := 28) dX5_isToken_27 (by decide) rfl rfl ?_
      exact it_loop (s := (h.2.1 82 4).toInt.toNat) s0 s1 r0 hb h8 (nI_at (by omega)) (by omega) bs.length 0 _ (by omega) rfl rfl rfl
    refine zEx.mono main (fun v h' hq => ?_)
    obtain ⟨rfl, hv⟩ := hq
    refine ⟨hok, hFr.rf, ?_⟩
    rcases hv with e | e
    · exact ⟨_, List.mem_cons_self, ⟨0, e, aR1_in (lo := 0) (hi := 0) (by decide) (by decide)⟩, trivial, (fun q hq => nomatch hq), (fun q hq => nomatch hq)⟩
    · exact ⟨_, List.mem_cons_of_mem _ List.mem_cons_self, ⟨1, e, aR1_in (lo := 1) (hi := 1) (by decide) (by decide)⟩, trivial, (fun q hq => nomatch hq), (fun q hq => nomatch hq)⟩
