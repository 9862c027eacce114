/-! next: 'end' never falls, and grows where the token isn't 0 -/
theorem zEx.and {scr : Option (Nat × (Nat → Int32))} {d : Nat} {m : zM} {g : zC} {Q Q' : Option zV → zH → Prop} (h1 : zEx scr d m g Q) (h2 : zEx scr d m g Q') : zEx scr d m g (fun v h' => Q v h' ∧ Q' v h') := by
  obtain ⟨n1, v1, x1, a1, b1⟩ := h1
  obtain ⟨n2, v2, x2, a2, b2⟩ := h2
  have e1 := zrun_le (Nat.le_max_left n1 n2) a1
  have e2 := zrun_le (Nat.le_max_right n1 n2) a2
  have e := e1.symm.trans e2
  have e := Option.some.inj e
  have ev : v1 = v2 := congrArg Prod.fst e
  have eh : x1 = x2 := congrArg Prod.snd e
  subst ev; subst eh
  exact ⟨_, v1, x1, a1, b1, b2⟩
section HNX
def lkF (sz : Int32) (tp : Nat → Int32) (i : Int32) : Int32 := if i < sz then tp i.toNatClampNeg else -1
def btw (lo hi x : Int32) : Int32 := if x < lo then 0 else if hi < x then 0 else 1
variable {d : Nat} {h : zH} {sz e0 : Int32} {tp : Nat → Int32} {Q : Option zV → zH → Prop}
theorem k_look {i : Int32} (s0 : zsh h 196 = some (12, 39)) (s1 : zsh h 197 = some (14, 1000)) (r1 : h.2.2.2.1 196 1 = some 197) (hz : h.2.1 196 3 = sz) (ht : h.2.1 197 = tp) (hi : 0 ≤ i.toInt) (hs : sz.toInt ≤ 1000) : zCi d mX12_look [.inr (.inr (some 196)), .inl i] h (fun y h' => y = lkF sz tp i ∧ h' = h) := by
  show zEx none d mX12_look (0, [(0, .inr (.inr (some 196))), (1, .inl i)], [], h) _
  subst hz; subst ht
  refine ex_iload_n (pc' := 1) dX12_look_0 rfl rfl ?_
  refine ex_aload_n (pc' := 2) dX12_look_1 rfl rfl ?_
  refine ex_getI (pc' := 5) (n := 39) dX12_look_2 fl_12_71 s0 (by decide) rfl rfl ?_
  refine ex_icmp (pc' := 17) (pc2 := 8) dX12_look_5 (by decide) rfl (fun c => ?_) (fun c => ?_)
  · refine ex_iconst (v := (-1)) (pc' := 18) dX12_look_17 (by decide) rfl ?_
    refine ex_iretI dX12_look_18 rfl rfl ⟨?_, rfl⟩
    have c : h.2.1 196 3 ≤ i := by simpa [zcond] using c
    have : ¬ i < h.2.1 196 3 := by rw [Int32.lt_iff_toInt_lt]; rw [Int32.le_iff_toInt_le] at c; omega
    unfold lkF
    rw [if_neg this]
  · have c : ¬ h.2.1 196 3 ≤ i := by simpa [zcond] using c
    have c : i < h.2.1 196 3 := by rw [Int32.lt_iff_toInt_lt]; rw [Int32.le_iff_toInt_le] at c; omega
    have c' := Int32.lt_iff_toInt_lt.mp c
    obtain ⟨k, hk⟩ : ∃ k : Nat, i.toInt = (k : Int) := ⟨i.toInt.toNat, by omega⟩
    have ei : i = nI k := nI_at hk
    refine ex_aload_n (pc' := 9) dX12_look_8 rfl rfl ?_
    refine ex_getR (pc' := 12) (n := 39) (r := 197) dX12_look_9 fl_12_7 s0 (by decide) r1 rfl ?_
    refine ex_iload_n (pc' := 13) dX12_look_12 rfl rfl ?_
    refine ex_iald (pc' := 14) (n := 1000) (v := h.2.1 197 i.toNatClampNeg) dX12_look_13 s1 (by rw [ei]; exact zn_in (by omega) (by omega)) rfl rfl ?_
    refine ex_goto (pc' := 18) dX12_look_14 (by decide) ?_
    refine ex_iretI dX12_look_18 rfl rfl ⟨?_, rfl⟩
    unfold lkF
    rw [if_pos c]
theorem k_small {x : Int32} : zCi d mX12_isSmall [.inl x] h (fun y h' => y = btw 97 122 x ∧ h' = h) := by
  show zEx none d mX12_isSmall (0, [(0, .inl x)], [], h) _
  refine ex_iload_n (pc' := 1) dX12_isSmall_0 rfl rfl ?_
  refine ex_bipush (v := 97) (pc' := 3) dX12_isSmall_1 (by decide) rfl ?_
  refine ex_icmp (pc' := 16) (pc2 := 6) dX12_isSmall_3 (by decide) rfl (fun c => ?_) (fun c => ?_)
  · refine ex_iconst (v := 0) (pc' := 17) dX12_isSmall_16 (by decide) rfl ?_
    refine ex_iretI dX12_isSmall_17 rfl (by decide) ⟨?_, rfl⟩
    have c : x < 97 := by simpa [zcond] using c
    unfold btw
    rw [if_pos c]
  have c1 : ¬ x < 97 := by simpa [zcond] using c
  refine ex_iload_n (pc' := 7) dX12_isSmall_6 rfl rfl ?_
  refine ex_bipush (v := 122) (pc' := 9) dX12_isSmall_7 (by decide) rfl ?_
  refine ex_icmp (pc' := 16) (pc2 := 12) dX12_isSmall_9 (by decide) rfl (fun c => ?_) (fun c => ?_)
  · refine ex_iconst (v := 0) (pc' := 17) dX12_isSmall_16 (by decide) rfl ?_
    refine ex_iretI dX12_isSmall_17 rfl (by decide) ⟨?_, rfl⟩
    have c : 122 < x := by simpa [zcond] using c
    unfold btw
    rw [if_neg c1, if_pos c]
  · refine ex_iconst (v := 1) (pc' := 13) dX12_isSmall_12 (by decide) rfl ?_
    refine ex_goto (pc' := 17) dX12_isSmall_13 (by decide) ?_
    refine ex_iretI dX12_isSmall_17 rfl (by decide) ⟨?_, rfl⟩
    have c : ¬ 122 < x := by simpa [zcond] using c
    unfold btw
    rw [if_neg c1, if_neg c]
theorem k_digit {x : Int32} : zCi d mX12_isDigit [.inl x] h (fun y h' => y = btw 48 57 x ∧ h' = h) := by
  show zEx none d mX12_isDigit (0, [(0, .inl x)], [], h) _
  refine ex_iload_n (pc' := 1) dX12_isDigit_0 rfl rfl ?_
  refine ex_bipush (v := 48) (pc' := 3) dX12_isDigit_1 (by decide) rfl ?_
  refine ex_icmp (pc' := 16) (pc2 := 6) dX12_isDigit_3 (by decide) rfl (fun c => ?_) (fun c => ?_)
  · refine ex_iconst (v := 0) (pc' := 17) dX12_isDigit_16 (by decide) rfl ?_
    refine ex_iretI dX12_isDigit_17 rfl (by decide) ⟨?_, rfl⟩
    have c : x < 48 := by simpa [zcond] using c
    unfold btw
    rw [if_pos c]
  have c1 : ¬ x < 48 := by simpa [zcond] using c
  refine ex_iload_n (pc' := 7) dX12_isDigit_6 rfl rfl ?_
  refine ex_bipush (v := 57) (pc' := 9) dX12_isDigit_7 (by decide) rfl ?_
  refine ex_icmp (pc' := 16) (pc2 := 12) dX12_isDigit_9 (by decide) rfl (fun c => ?_) (fun c => ?_)
  · refine ex_iconst (v := 0) (pc' := 17) dX12_isDigit_16 (by decide) rfl ?_
    refine ex_iretI dX12_isDigit_17 rfl (by decide) ⟨?_, rfl⟩
    have c : 57 < x := by simpa [zcond] using c
    unfold btw
    rw [if_neg c1, if_pos c]
  · refine ex_iconst (v := 1) (pc' := 13) dX12_isDigit_12 (by decide) rfl ?_
    refine ex_goto (pc' := 17) dX12_isDigit_13 (by decide) ?_
    refine ex_iretI dX12_isDigit_17 rfl (by decide) ⟨?_, rfl⟩
    have c : ¬ 57 < x := by simpa [zcond] using c
    unfold btw
    rw [if_neg c1, if_neg c]
def nxH (h : zH) (sz e0 : Int32) (tp : Nat → Int32) : Prop := zsh h 196 = some (12, 39) ∧ zsh h 197 = some (14, 1000) ∧ zsh h 198 = some (14, 8) ∧ h.2.2.2.1 196 1 = some 197 ∧ h.2.2.2.1 196 12 = some 198 ∧ h.2.1 196 3 = sz ∧ h.2.1 197 = tp ∧ h.2.1 196 5 = e0
theorem nxH.s {f : Nat} {v : Int32} (n : nxH h sz e0 tp) (h3 : f ≠ 3) (h5 : f ≠ 5) : nxH (zsI h 196 f v) sz e0 tp := by
  obtain ⟨a, b, c, e, g, k, l, m⟩ := n
  refine ⟨a, b, c, e, g, ?_, ?_, ?_⟩
  · rw [zsI_no (by omega)]; exact k
  · rw [← l]; funext j; exact zsI_no (by omega)
  · rw [zsI_no (by omega)]; exact m
theorem nxH.l {f : Nat} {v : Int32} (n : nxH h sz e0 tp) : nxH (zsI h 198 f v) sz e0 tp := by
  obtain ⟨a, b, c, e, g, k, l, m⟩ := n
  refine ⟨a, b, c, e, g, ?_, ?_, ?_⟩
  · rw [zsI_no (by omega)]; exact k
  · rw [← l]; funext j; exact zsI_no (by omega)
  · rw [zsI_no (by omega)]; exact m
theorem i32_suc {i : Int32} (h0 : 0 ≤ i.toInt) (h1 : i.toInt ≤ 100000) : (i + Int32.ofInt 1).toInt = i.toInt + 1 := by
  rw [Int32.toInt_add]
  show (i.toInt + 1).bmod (2 ^ 32) = _
  exact bmod_fit (by omega) (by omega)
theorem i32_suc1 {i : Int32} (h0 : 0 ≤ i.toInt) (h1 : i.toInt ≤ 100000) : (i + 1).toInt = i.toInt + 1 := i32_suc h0 h1
theorem lk_lt {lo hi i : Int32} (hb : btw lo hi (lkF sz tp i) ≠ 0) (hlo : btw lo hi (-1) = 0) : i.toInt < sz.toInt := by
  by_cases c : i < sz
  · exact Int32.lt_iff_toInt_lt.mp c
  · unfold lkF at hb
    rw [if_neg c] at hb
    exact absurd hlo hb
variable {h0 : zH} {ls : zL} {i : Int32}
theorem nx_t117 (hn : nxH h sz e0 tp) (hl0 : zget ls 0 = some (.inr (.inr (some 196)))) (hl1 : zget ls 1 = some (.inl i)) (he : h0.2.1 196 5 = e0) (hi : e0.toInt < i.toInt) : zEx none (d + 1) mX12_next (117, ls, [], h) (fun _ h' => hMn h0 h') := by
  obtain ⟨s0, s1, s2, r1, r12, hz, ht, h5⟩ := hn
  have fin : ∀ v : Int32, hMn h0 (zsI (zsI h 196 5 i) 196 6 v) := fun v => by
    have e : (zsI (zsI h 196 5 i) 196 6 v).2.1 196 5 = i := rfl
    unfold hMn
    rw [e, he]
    exact ⟨by omega, .inl hi⟩
  refine ex_aload_n (pc' := 118) dX12_next_117 hl0 rfl ?_
  refine ex_iload_n (pc' := 119) dX12_next_118 hl1 rfl ?_
  refine ex_putI (pc' := 122) (n := 39) dX12_next_119 fl_12_74 s0 (Or.inl rfl) (Or.inl rfl) rfl ?_
  refine ex_aload_n (pc' := 123) dX12_next_122 hl0 rfl ?_
  refine ex_aload_n (pc' := 124) dX12_next_123 hl0 rfl ?_
  refine ex_getI (pc' := 127) (n := 39) dX12_next_124 fl_12_84 s0 (by decide) rfl rfl ?_
  refine ex_bipush (v := 8) (pc' := 129) dX12_next_127 (by decide) rfl ?_
  refine ex_icmp (pc' := 136) (pc2 := 132) dX12_next_129 (by decide) rfl (fun c => ?_) (fun c => ?_)
  · refine ex_iconst (v := 2) (pc' := 137) dX12_next_136 (by decide) rfl ?_
    refine ex_putI (pc' := 140) (n := 39) dX12_next_137 fl_12_90 s0 (Or.inl rfl) (Or.inl rfl) rfl ?_
    refine ex_goto (pc' := 241) dX12_next_140 (by decide) ?_
    exact ex_vret dX12_next_241 rfl (fin _)
  · refine ex_iconst (v := 1) (pc' := 133) dX12_next_132 (by decide) rfl ?_
    refine ex_goto (pc' := 137) dX12_next_133 (by decide) ?_
    refine ex_putI (pc' := 140) (n := 39) dX12_next_137 fl_12_90 s0 (Or.inl rfl) (Or.inl rfl) rfl ?_
    refine ex_goto (pc' := 241) dX12_next_140 (by decide) ?_
    exact ex_vret dX12_next_241 rfl (fin _)
theorem nx_t197 {c3 : Int32} (hn : nxH h sz e0 tp) (hl0 : zget ls 0 = some (.inr (.inr (some 196)))) (hl1 : zget ls 1 = some (.inl i)) (hl3 : zget ls 3 = some (.inl c3)) (he : h0.2.1 196 5 = e0) (hi : e0.toInt < i.toInt) : zEx none (d + 1) mX12_next (197, ls, [], h) (fun _ h' => hMn h0 h') := by
  obtain ⟨s0, s1, s2, r1, r12, hz, ht, h5⟩ := hn
  have fin : ∀ v : Int32, hMn h0 (zsI (zsI h 196 5 i) 196 6 v) := fun v => by
    have e : (zsI (zsI h 196 5 i) 196 6 v).2.1 196 5 = i := rfl
    unfold hMn
    rw [e, he]
    exact ⟨by omega, .inl hi⟩
  refine ex_aload_n (pc' := 198) dX12_next_197 hl0 rfl ?_
  refine ex_iload_n (pc' := 199) dX12_next_198 hl1 rfl ?_
  refine ex_putI (pc' := 202) (n := 39) dX12_next_199 fl_12_74 s0 (Or.inl rfl) (Or.inl rfl) rfl ?_
  refine ex_aload_n (pc' := 203) dX12_next_202 hl0 rfl ?_
  refine ex_iload_n (pc' := 204) dX12_next_203 hl3 rfl ?_
  refine ex_iconst (v := 4) (pc' := 205) dX12_next_204 (by decide) rfl ?_
  refine ex_icmp (pc' := 212) (pc2 := 208) dX12_next_205 (by decide) rfl (fun c => ?_) (fun c => ?_)
  · refine ex_iconst (v := 3) (pc' := 213) dX12_next_212 (by decide) rfl ?_
    refine ex_putI (pc' := 216) (n := 39) dX12_next_213 fl_12_90 s0 (Or.inl rfl) (Or.inl rfl) rfl ?_
    refine ex_goto (pc' := 241) dX12_next_216 (by decide) ?_
    exact ex_vret dX12_next_241 rfl (fin _)
  · refine ex_iconst (v := 1) (pc' := 209) dX12_next_208 (by decide) rfl ?_
    refine ex_goto (pc' := 213) dX12_next_209 (by decide) ?_
    refine ex_putI (pc' := 216) (n := 39) dX12_next_213 fl_12_90 s0 (Or.inl rfl) (Or.inl rfl) rfl ?_
    refine ex_goto (pc' := 241) dX12_next_216 (by decide) ?_
    exact ex_vret dX12_next_241 rfl (fin _)
theorem nx_t219 {c2 : Int32} (hn : nxH h sz e0 tp) (hl0 : zget ls 0 = some (.inr (.inr (some 196)))) (hl1 : zget ls 1 = some (.inl i)) (hl2 : zget ls 2 = some (.inl c2)) (he : h0.2.1 196 5 = e0) (h00 : 0 ≤ e0.toInt) (hi : e0.toInt ≤ i.toInt) (hi2 : i.toInt ≤ 1000) : zEx none (d + 1) mX12_next (219, ls, [], h) (fun _ h' => hMn h0 h') := by
  obtain ⟨s0, s1, s2, r1, r12, hz, ht, h5⟩ := hn
  have fin : ∀ v : Int32, hMn h0 (zsI (zsI h 196 5 (i + 1)) 196 6 v) := fun v => by
    have e : (zsI (zsI h 196 5 (i + 1)) 196 6 v).2.1 196 5 = i + 1 := rfl
    unfold hMn
    rw [e, he, i32_suc1 (by omega) (by omega)]
    exact ⟨by omega, .inl (by omega)⟩
  refine ex_aload_n (pc' := 220) dX12_next_219 hl0 rfl ?_
  refine ex_iload_n (pc' := 221) dX12_next_220 hl1 rfl ?_
  refine ex_iconst (v := 1) (pc' := 222) dX12_next_221 (by decide) rfl ?_
  refine ex_iadd (pc' := 223) dX12_next_222 rfl rfl ?_
  refine ex_putI (pc' := 226) (n := 39) dX12_next_223 fl_12_74 s0 (Or.inl rfl) (Or.inl rfl) rfl ?_
  refine ex_aload_n (pc' := 227) dX12_next_226 hl0 rfl ?_
  refine ex_iload_n (pc' := 228) dX12_next_227 hl2 rfl ?_
  refine ex_bipush (v := 59) (pc' := 230) dX12_next_228 (by decide) rfl ?_
  refine ex_icmp (pc' := 237) (pc2 := 233) dX12_next_230 (by decide) rfl (fun c => ?_) (fun c => ?_)
  · refine ex_iconst (v := 1) (pc' := 238) dX12_next_237 (by decide) rfl ?_
    refine ex_putI (pc' := 241) (n := 39) dX12_next_238 fl_12_90 s0 (Or.inl rfl) (Or.inl rfl) rfl ?_
    exact ex_vret dX12_next_241 rfl (fin _)
  · refine ex_iload_n (pc' := 234) dX12_next_233 hl2 rfl ?_
    refine ex_goto (pc' := 238) dX12_next_234 (by decide) ?_
    refine ex_putI (pc' := 241) (n := 39) dX12_next_238 fl_12_90 s0 (Or.inl rfl) (Or.inl rfl) rfl ?_
    exact ex_vret dX12_next_241 rfl (fin _)
theorem nx_t47 (hn : nxH h sz e0 tp) (hl0 : zget ls 0 = some (.inr (.inr (some 196)))) (hl1 : zget ls 1 = some (.inl i)) (he : h0.2.1 196 5 = e0) (hi : e0.toInt ≤ i.toInt) : zEx none (d + 1) mX12_next (47, ls, [], h) (fun _ h' => hMn h0 h') := by
  obtain ⟨s0, s1, s2, r1, r12, hz, ht, h5⟩ := hn
  refine ex_aload_n (pc' := 48) dX12_next_47 hl0 rfl ?_
  refine ex_iconst (v := 0) (pc' := 49) dX12_next_48 (by decide) rfl ?_
  refine ex_putI (pc' := 52) (n := 39) dX12_next_49 fl_12_90 s0 (Or.inl rfl) (Or.inl rfl) rfl ?_
  refine ex_aload_n (pc' := 53) dX12_next_52 hl0 rfl ?_
  refine ex_iload_n (pc' := 54) dX12_next_53 hl1 rfl ?_
  refine ex_putI (pc' := 57) (n := 39) dX12_next_54 fl_12_74 s0 (Or.inl rfl) (Or.inl rfl) rfl ?_
  refine ex_goto (pc' := 241) dX12_next_57 (by decide) ?_
  refine ex_vret dX12_next_241 rfl ?_
  have e : (zsI (zsI h 196 6 0) 196 5 i).2.1 196 5 = i := rfl
  have e6 : (zsI (zsI h 196 6 0) 196 5 i).2.1 196 6 = 0 := rfl
  unfold hMn
  rw [e, he]
  exact ⟨hi, .inr (.inl e6)⟩
theorem nx_l2 (he : h0.2.1 196 5 = e0) (h00 : 0 ≤ e0.toInt) (hs : sz.toInt ≤ 1000) : ∀ (n : Nat) (i ns : Int32) (h : zH) (ls : zL), nxH h sz e0 tp → zget ls 0 = some (.inr (.inr (some 196))) → zget ls 1 = some (.inl i) → e0.toInt ≤ i.toInt → (e0.toInt < i.toInt ∨ btw 97 122 (lkF sz tp i) ≠ 0) → i.toInt ≤ 1000 → 1001 - i.toInt ≤ (n : Int) → h.2.1 196 8 = ns → 0 ≤ ns.toInt → ns.toInt ≤ i.toInt → zEx none (d + 1) mX12_next (67, ls, [], h) (fun _ h' => hMn h0 h') := by
  intro n
  induction n with
  | zero => intro i ns h ls _ _ _ _ _ a b; omega
  | succ n ih =>
    intro i ns h ls hn hl0 hl1 hi1 hdis hi2 hm hns hns0 hns1
    have hn' := hn
    obtain ⟨s0, s1, s2, r1, r12, hz, ht, h5⟩ := hn
    have hi : 0 ≤ i.toInt := by omega
    refine ex_aload_n (pc' := 68) dX12_next_67 hl0 rfl ?_
    refine ex_iload_n (pc' := 69) dX12_next_68 hl1 rfl ?_
    refine en_callvI (pc' := 72) (v := lkF sz tp i) (h2 := h) (vs := [.inl i]) (rest := []) (n := 39) dX12_next_69 ml_12_77 ⟨zble rfl, zble rfl⟩ rfl rfl s0 (by decide) (zble rfl) rfl (k_look s0 s1 r1 hz ht hi hs) ?_
    refine en_callsI (pc' := 75) (v := btw 97 122 (lkF sz tp i)) (h2 := h) (vs := [.inl (lkF sz tp i)]) (rest := []) dX12_next_72 ml_12_93 (Or.inl rfl) ⟨zble rfl, zble rfl⟩ rfl rfl (zble rfl) rfl k_small ?_
    refine ex_if (pc' := 117) (pc2 := 78) dX12_next_75 (by decide) rfl (fun c => ?_) (fun c => ?_)
    · have c : btw 97 122 (lkF sz tp i) = 0 := by simpa [zcond] using c
      exact nx_t117 hn' hl0 hl1 he (by rcases hdis with z | z; exact z; exact absurd c z)
    have c : btw 97 122 (lkF sz tp i) ≠ 0 := by simpa [zcond] using c
    have hlt := lk_lt c (by decide)
    have es := i32_suc hi (by omega)
    have go : ∀ h2 : zH, nxH h2 sz e0 tp → h2.2.1 196 8 = ns → zEx none (d + 1) mX12_next (101, ls, [], h2) (fun _ h' => hMn h0 h') := by
      intro h2 hn2 hns2
      have hn3 := hn2
      obtain ⟨s0, s1, s2, r1, r12, hz, ht, h5⟩ := hn2
      refine ex_aload_n (pc' := 102) dX12_next_101 hl0 rfl ?_
      refine ex_dup (pc' := 103) dX12_next_102 rfl rfl ?_
      refine ex_getI (pc' := 106) (n := 39) dX12_next_103 fl_12_84 s0 (by decide) rfl rfl ?_
      refine ex_iconst (v := 1) (pc' := 107) dX12_next_106 (by decide) rfl ?_
      refine ex_iadd (pc' := 108) dX12_next_107 rfl rfl ?_
      refine ex_putI (pc' := 111) (n := 39) dX12_next_108 fl_12_84 s0 (Or.inl rfl) (Or.inl rfl) rfl ?_
      refine ex_iinc (pc' := 114) dX12_next_111 hl1 (by decide) rfl rfl rfl ?_
      refine ex_goto (pc' := 67) dX12_next_114 (by decide) ?_
      have en := i32_suc1 hns0 (by omega)
      refine ih (i + Int32.ofInt 1) (ns + 1) _ _ (hn3.s (by decide) (by decide)) (zget_s1 hl0 (by decide) (by decide)) zget_s1e (by omega) (.inl (by omega)) (by omega) (by omega) ?_ (by omega) (by omega)
      rw [zsI_at, if_pos ⟨rfl, rfl⟩, hns2]
    refine ex_aload_n (pc' := 79) dX12_next_78 hl0 rfl ?_
    refine ex_getI (pc' := 82) (n := 39) dX12_next_79 fl_12_84 s0 (by decide) rfl rfl ?_
    refine ex_bipush (v := 8) (pc' := 84) dX12_next_82 (by decide) rfl ?_
    refine ex_icmp (pc' := 101) (pc2 := 87) dX12_next_84 (by decide) rfl (fun c => ?_) (fun c => ?_)
    · exact go h hn' hns
    · have c : ¬ (8 : Int32) ≤ h.2.1 196 8 := by simpa [zcond] using c
      rw [hns, Int32.le_iff_toInt_le] at c
      have c : ¬ (8 : Int) ≤ ns.toInt := c
      obtain ⟨k, hk⟩ : ∃ k : Nat, ns.toInt = (k : Int) := ⟨ns.toInt.toNat, by omega⟩
      have ek : ns = nI k := nI_at hk
      refine ex_aload_n (pc' := 88) dX12_next_87 hl0 rfl ?_
      refine ex_getR (pc' := 91) (n := 39) (r := 198) dX12_next_88 fl_12_17 s0 (by decide) r12 rfl ?_
      refine ex_aload_n (pc' := 92) dX12_next_91 hl0 rfl ?_
      refine ex_getI (pc' := 95) (n := 39) dX12_next_92 fl_12_84 s0 (by decide) rfl rfl ?_
      refine ex_aload_n (pc' := 96) dX12_next_95 hl0 rfl ?_
      refine ex_iload_n (pc' := 97) dX12_next_96 hl1 rfl ?_
      refine en_callvI (pc' := 100) (v := lkF sz tp i) (h2 := h) (vs := [.inl i]) (rest := [.inl (h.2.1 196 8), .inr (.inr (some 198))]) (n := 39) dX12_next_97 ml_12_77 ⟨zble rfl, zble rfl⟩ rfl rfl s0 (by decide) (zble rfl) rfl (k_look s0 s1 r1 hz ht hi hs) ?_
      refine ex_iast (pc' := 101) (n := 8) dX12_next_100 s2 (by rw [hns, ek]; exact zn_in (by omega) (by omega)) rfl ?_
      exact go _ hn'.l (by rw [zsI_no (by omega)]; exact hns)
theorem nx_l3 (he : h0.2.1 196 5 = e0) (h00 : 0 ≤ e0.toInt) (hs : sz.toInt ≤ 1000) : ∀ (n : Nat) (i c3 : Int32) (h : zH) (ls : zL), nxH h sz e0 tp → zget ls 0 = some (.inr (.inr (some 196))) → zget ls 1 = some (.inl i) → zget ls 3 = some (.inl c3) → e0.toInt ≤ i.toInt → (e0.toInt < i.toInt ∨ btw 48 57 (lkF sz tp i) ≠ 0) → i.toInt ≤ 1000 → 1001 - i.toInt ≤ (n : Int) → zEx none (d + 1) mX12_next (152, ls, [], h) (fun _ h' => hMn h0 h') := by
  intro n
  induction n with
  | zero => intro i c3 h ls _ _ _ _ _ _ a b; omega
  | succ n ih =>
    intro i c3 h ls hn hl0 hl1 hl3 hi1 hdis hi2 hm
    have hn' := hn
    obtain ⟨s0, s1, s2, r1, r12, hz, ht, h5⟩ := hn
    have hi : 0 ≤ i.toInt := by omega
    refine ex_aload_n (pc' := 153) dX12_next_152 hl0 rfl ?_
    refine ex_iload_n (pc' := 154) dX12_next_153 hl1 rfl ?_
    refine en_callvI (pc' := 157) (v := lkF sz tp i) (h2 := h) (vs := [.inl i]) (rest := []) (n := 39) dX12_next_154 ml_12_77 ⟨zble rfl, zble rfl⟩ rfl rfl s0 (by decide) (zble rfl) rfl (k_look s0 s1 r1 hz ht hi hs) ?_
    refine en_callsI (pc' := 160) (v := btw 48 57 (lkF sz tp i)) (h2 := h) (vs := [.inl (lkF sz tp i)]) (rest := []) dX12_next_157 ml_12_97 (Or.inl rfl) ⟨zble rfl, zble rfl⟩ rfl rfl (zble rfl) rfl k_digit ?_
    refine ex_if (pc' := 197) (pc2 := 163) dX12_next_160 (by decide) rfl (fun c => ?_) (fun c => ?_)
    · have c : btw 48 57 (lkF sz tp i) = 0 := by simpa [zcond] using c
      exact nx_t197 hn' hl0 hl1 hl3 he (by rcases hdis with z | z; exact z; exact absurd c z)
    have c : btw 48 57 (lkF sz tp i) ≠ 0 := by simpa [zcond] using c
    have hlt := lk_lt c (by decide)
    have es := i32_suc hi (by omega)
    have go : ∀ (h2 : zH) (ls : zL) (c3 : Int32), nxH h2 sz e0 tp → zget ls 0 = some (.inr (.inr (some 196))) → zget ls 1 = some (.inl i) → zget ls 3 = some (.inl c3) → zEx none (d + 1) mX12_next (191, ls, [], h2) (fun _ h' => hMn h0 h') := by
      intro h2 ls c3 hn2 hl0 hl1 hl3
      refine ex_iinc (pc' := 194) dX12_next_191 hl1 (by decide) rfl rfl rfl ?_
      refine ex_goto (pc' := 152) dX12_next_194 (by decide) ?_
      exact ih (i + Int32.ofInt 1) c3 _ _ hn2 (zget_s1 hl0 (by decide) (by decide)) zget_s1e (zget_s1 hl3 (by decide) (by omega)) (by omega) (.inl (by omega)) (by omega) (by omega)
    refine ex_iload_n (pc' := 164) dX12_next_163 hl3 rfl ?_
    refine ex_iconst (v := 4) (pc' := 165) dX12_next_164 (by decide) rfl ?_
    refine ex_icmp (pc' := 188) (pc2 := 168) dX12_next_165 (by decide) rfl (fun c => ?_) (fun c => ?_)
    · refine ex_iinc (pc' := 191) dX12_next_188 hl3 (by decide) rfl rfl rfl ?_
      exact go _ _ _ hn' (zget_s1 hl0 (by decide) (by omega)) (zget_s1 hl1 (by decide) (by omega)) zget_s1e
    · refine ex_aload_n (pc' := 169) dX12_next_168 hl0 rfl ?_
      refine ex_bipush (v := 10) (pc' := 171) dX12_next_169 (by decide) rfl ?_
      refine ex_aload_n (pc' := 172) dX12_next_171 hl0 rfl ?_
      refine ex_getI (pc' := 175) (n := 39) dX12_next_172 fl_12_87 s0 (by decide) rfl rfl ?_
      refine ex_imul (pc' := 176) dX12_next_175 rfl rfl ?_
      refine ex_aload_n (pc' := 177) dX12_next_176 hl0 rfl ?_
      refine ex_iload_n (pc' := 178) dX12_next_177 hl1 rfl ?_
      refine en_callvI (pc' := 181) (v := lkF sz tp i) (h2 := h) (vs := [.inl i]) (rest := [.inl (10 * h.2.1 196 7), .inr (.inr (some 196))]) (n := 39) dX12_next_178 ml_12_77 ⟨zble rfl, zble rfl⟩ rfl rfl s0 (by decide) (zble rfl) rfl (k_look s0 s1 r1 hz ht hi hs) ?_
      refine ex_iadd (pc' := 182) dX12_next_181 rfl rfl ?_
      refine ex_bipush (v := 48) (pc' := 184) dX12_next_182 (by decide) rfl ?_
      refine ex_isub (pc' := 185) dX12_next_184 rfl rfl ?_
      refine ex_putI (pc' := 188) (n := 39) dX12_next_185 fl_12_87 s0 (Or.inl rfl) (Or.inl rfl) rfl ?_
      refine ex_iinc (pc' := 191) dX12_next_188 hl3 (by decide) rfl rfl rfl ?_
      exact go _ _ _ (hn'.s (by decide) (by decide)) (zget_s1 hl0 (by decide) (by omega)) (zget_s1 hl1 (by decide) (by omega)) zget_s1e
theorem nx_21 (hn : nxH h sz e0 tp) (he : h0.2.1 196 5 = e0) (h00 : 0 ≤ e0.toInt) (hs : sz.toInt ≤ 1000) (hi1 : e0.toInt ≤ i.toInt) (hi2 : i.toInt ≤ 1000 ∨ sz.toInt ≤ i.toInt) (hi3 : i.toInt ≤ 1001) : zEx none (d + 1) mX12_next (21, [(1, .inl i), (0, .inr (.inr (some 196)))], [], h) (fun _ h' => hMn h0 h') := by
  have hn0 := hn.s (f := 4) (v := i) (by decide) (by decide)
  have hn1 : nxH (zsI (zsI (zsI h 196 4 i) 196 8 0) 196 7 0) sz e0 tp := (hn0.s (by decide) (by decide)).s (by decide) (by decide)
  obtain ⟨s0, s1, s2, r1, r12, hz, ht, h5⟩ := hn
  have hi : 0 ≤ i.toInt := by omega
  refine ex_aload_n (pc' := 22) dX12_next_21 rfl rfl ?_
  refine ex_iload_n (pc' := 23) dX12_next_22 rfl rfl ?_
  refine ex_putI (pc' := 26) (n := 39) dX12_next_23 fl_12_81 s0 (Or.inl rfl) (Or.inl rfl) rfl ?_
  refine ex_aload_n (pc' := 27) dX12_next_26 rfl rfl ?_
  refine ex_iload_n (pc' := 28) dX12_next_27 rfl rfl ?_
  obtain ⟨s0, s1, s2, r1, r12, hz, ht, h5⟩ := hn0
  refine en_callvI (pc' := 31) (v := lkF sz tp i) (h2 := zsI h 196 4 i) (vs := [.inl i]) (rest := []) (n := 39) dX12_next_28 ml_12_77 ⟨zble rfl, zble rfl⟩ rfl rfl s0 (by decide) (zble rfl) rfl (k_look s0 s1 r1 hz ht hi hs) ?_
  refine ex_istore_n (pc' := 32) dX12_next_31 (by decide) rfl rfl ?_
  refine ex_aload_n (pc' := 33) dX12_next_32 rfl rfl ?_
  refine ex_iconst (v := 0) (pc' := 34) dX12_next_33 (by decide) rfl ?_
  refine ex_putI (pc' := 37) (n := 39) dX12_next_34 fl_12_84 s0 (Or.inl rfl) (Or.inl rfl) rfl ?_
  refine ex_aload_n (pc' := 38) dX12_next_37 rfl rfl ?_
  refine ex_iconst (v := 0) (pc' := 39) dX12_next_38 (by decide) rfl ?_
  refine ex_putI (pc' := 42) (n := 39) dX12_next_39 fl_12_87 s0 (Or.inl rfl) (Or.inl rfl) rfl ?_
  refine ex_iload_n (pc' := 43) dX12_next_42 rfl rfl ?_
  refine ex_iconst (v := (-1)) (pc' := 44) dX12_next_43 (by decide) rfl ?_
  refine ex_icmp (pc' := 60) (pc2 := 47) dX12_next_44 (by decide) rfl (fun c => ?_) (fun c => ?_)
  · have c : lkF sz tp i ≠ -1 := by simpa [zcond] using c
    have hlt : i.toInt < sz.toInt := by
      by_cases z : i < sz
      · exact Int32.lt_iff_toInt_lt.mp z
      · unfold lkF at c
        rw [if_neg z] at c
        exact absurd rfl c
    refine ex_iload_n (pc' := 61) dX12_next_60 rfl rfl ?_
    refine en_callsI (pc' := 64) (v := btw 97 122 (lkF sz tp i)) (vs := [.inl (lkF sz tp i)]) (rest := []) dX12_next_61 ml_12_93 (Or.inl rfl) ⟨zble rfl, zble rfl⟩ rfl rfl (zble rfl) rfl k_small ?_
    refine ex_if (pc' := 143) (pc2 := 67) dX12_next_64 (by decide) rfl (fun c => ?_) (fun c => ?_)
    · refine ex_iload_n (pc' := 144) dX12_next_143 rfl rfl ?_
      refine en_callsI (pc' := 147) (v := btw 48 57 (lkF sz tp i)) (vs := [.inl (lkF sz tp i)]) (rest := []) dX12_next_144 ml_12_97 (Or.inl rfl) ⟨zble rfl, zble rfl⟩ rfl rfl (zble rfl) rfl k_digit ?_
      refine ex_if (pc' := 219) (pc2 := 150) dX12_next_147 (by decide) rfl (fun c => ?_) (fun c => ?_)
      · exact nx_t219 hn1 rfl rfl rfl he h00 hi1 (by omega)
      · have c : btw 48 57 (lkF sz tp i) ≠ 0 := by simpa [zcond] using c
        refine ex_iconst (v := 0) (pc' := 151) dX12_next_150 (by decide) rfl ?_
        refine ex_istore_n (pc' := 152) dX12_next_151 (by decide) rfl rfl ?_
        exact nx_l3 he h00 hs 1001 i _ _ _ hn1 rfl rfl rfl hi1 (.inr c) (by omega) (by omega)
    · have c : btw 97 122 (lkF sz tp i) ≠ 0 := by simpa [zcond] using c
      exact nx_l2 he h00 hs 1001 i 0 _ _ hn1 rfl rfl hi1 (.inr c) (by omega) (by omega) rfl (by decide) hi
  · exact nx_t47 hn1 rfl rfl he hi1
theorem nx_l1 (hn : nxH h sz e0 tp) (he : h0.2.1 196 5 = e0) (h00 : 0 ≤ e0.toInt) (hs : sz.toInt ≤ 1000) : ∀ (n : Nat) (i : Int32), e0.toInt ≤ i.toInt → i.toInt ≤ 1001 → 1002 - i.toInt ≤ (n : Int) → zEx none (d + 1) mX12_next (5, [(1, .inl i), (0, .inr (.inr (some 196)))], [], h) (fun _ h' => hMn h0 h') := by
  intro n
  induction n with
  | zero => intro i a b c; omega
  | succ n ih =>
    intro i hi1 hi3 hm
    have hn' := hn
    obtain ⟨s0, s1, s2, r1, r12, hz, ht, h5⟩ := hn
    have hi : 0 ≤ i.toInt := by omega
    refine ex_aload_n (pc' := 6) dX12_next_5 rfl rfl ?_
    refine ex_iload_n (pc' := 7) dX12_next_6 rfl rfl ?_
    refine en_callvI (pc' := 10) (v := lkF sz tp i) (h2 := h) (vs := [.inl i]) (rest := []) (n := 39) dX12_next_7 ml_12_77 ⟨zble rfl, zble rfl⟩ rfl rfl s0 (by decide) (zble rfl) rfl (k_look s0 s1 r1 hz ht hi hs) ?_
    refine ex_bipush (v := 32) (pc' := 12) dX12_next_10 (by decide) rfl ?_
    refine ex_icmp (pc' := 21) (pc2 := 15) dX12_next_12 (by decide) rfl (fun c => ?_) (fun c => ?_)
    · exact nx_21 hn' he h00 hs hi1 (by omega) hi3
    · have c : lkF sz tp i = 32 := by simpa [zcond] using c
      have hlt : i.toInt < sz.toInt := by
        by_cases z : i < sz
        · exact Int32.lt_iff_toInt_lt.mp z
        · unfold lkF at c
          rw [if_neg z] at c
          exact absurd c (by decide)
      have es := i32_suc hi (by omega)
      refine ex_iinc (pc' := 18) dX12_next_15 rfl (by decide) rfl rfl rfl ?_
      refine ex_goto (pc' := 5) dX12_next_18 (by decide) ?_
      exact ih (i + Int32.ofInt 1) (by omega) (by omega) (by omega)
end HNX
theorem N_next {d : Nat} {h : zH} (ho : hOK wd h) : zEx none (d + 1) mX12_next (0, zargs 0 [.inr (.inr (some 196))], [], h) (fun _ h' => hMn h h') := by
  have s0 : zsh h 196 = some (12, 39) := ho.1 196 (12, 39) (by decide +kernel)
  have s1 : zsh h 197 = some (14, 1000) := ho.1 197 (14, 1000) (by decide +kernel)
  have s2 : zsh h 198 = some (14, 8) := ho.1 198 (14, 8) (by decide +kernel)
  have r1 : h.2.2.2.1 196 1 = some 197 := ho.2.2.1 196 1 197 (by decide +kernel)
  have r12 : h.2.2.2.1 196 12 = some 198 := ho.2.2.1 196 12 198 (by decide +kernel)
  have h3 := aHull_in (aLe_in (B := [(0, 1000, 1)]) (by decide +kernel) (ho.2.1 196 3))
  have h5 := aHull_in (aLe_in (B := [(0, 1001, 1)]) (by decide +kernel) (ho.2.1 196 5))
  simp only [aHull] at h3 h5
  show zEx none (d + 1) mX12_next (0, [(0, .inr (.inr (some 196)))], [], h) _
  refine ex_aload_n (pc' := 1) dX12_next_0 rfl rfl ?_
  refine ex_getI (pc' := 4) (n := 39) dX12_next_1 fl_12_74 s0 (by decide) rfl rfl ?_
  refine ex_istore_n (pc' := 5) dX12_next_4 (by decide) rfl rfl ?_
  exact nx_l1 (sz := h.2.1 196 3) (tp := h.2.1 197) (e0 := h.2.1 196 5) ⟨s0, s1, s2, r1, r12, rfl, rfl, rfl⟩ rfl h5.1 (by omega) 1002 (h.2.1 196 5) (Int.le_refl _) (by omega) (by omega)
theorem S_nxt {pre : List ((Nat × Nat) × aI) × aU} {ps : List aPo} {md rm : aMd} {D : Nat} (hD : 1 ≤ D) (hb : aSpec wd (mX12_next, [.inr (.inl [196])], pre, ps, md, rm, D)) : aSpec wd (mX12_next, [.inr (.inl [196])], pre, ps, md ++ [(1000002, 0, 0)], rm, D) := by
  intro d hd vs h hargs hok hpre
  have base := hb d hd vs h hargs hok hpre
  have hd : D ≤ d := hd
  obtain ⟨d, rfl⟩ : ∃ d', d = d' + 1 := ⟨d - 1, by omega⟩
  match vs, hargs with
  | [v0], ⟨⟨q0, m0, e0⟩, _⟩ =>
    have m0 : q0 = 196 := by simpa using m0
    subst e0; subst m0
    refine zEx.mono (zEx.and base (N_next hok)) (fun v h' hq => ?_)
    obtain ⟨⟨a, ⟨b1, b2, b3, b4, _⟩, c⟩, hm⟩ := hq
    refine ⟨a, ⟨b1, b2, fun x k hx => b3 x k ?_, b4, fun _ => hm⟩, c⟩
    have hx : inM (md ++ [(1000002, 0, 0)]) x k = false := hx
    unfold inM at hx ⊢
    rw [List.any_append] at hx
    exact (Bool.or_eq_false_iff.mp hx).1
