/-! post: both sizes fall to 0 exactly when the number is good -/
def rv0 : aU := [((0, 3), 2), ((0, 4), 42), ((92, 0), 2), ((94, 0), 2), ((96, 0), 2)]
def rv1 : aU := [((0, 3), 42), ((0, 4), 2), ((92, 0), 42), ((94, 0), 42), ((96, 0), 42)]
def lV (h : zH) (r : aU) : Prop := ∀ q ∈ r, h.2.2.2.1 q.1.1 q.1.2 = some q.2
def pSz (x : Int32) (s : Nat) : Int32 := if 0 ≤ x.toInt ∧ x.toInt ≤ (s : Int) then 0 else nI s
theorem inM_by {md : aMd} {a k : Nat} (p : Nat → Bool) (hm : md.all (fun q => p q.1) = true) (ha : p a = false) : inM md a k = false := by
  unfold inM
  rw [List.any_eq_false]
  intro q hq z
  rw [Bool.and_eq_true] at z
  have e := Nat.eq_of_beq_eq_true z.1
  have := List.all_eq_true.mp hm q hq
  rw [e, ha] at this
  cases this
def pM (a : Nat) : Bool := Nat.ble 196 a && !(Nat.beq a 197)
def pC (a : Nat) : Bool := Nat.ble a 195
theorem pM_f {a : Nat} (h : a < 196 ∨ a = 197) : pM a = false := by
  unfold pM
  rcases h with h | h
  · have : Nat.ble 196 a = false := by
      cases e : Nat.ble 196 a with
      | false => rfl
      | true => have := Nat.le_of_ble_eq_true e; omega
    rw [this]; rfl
  · subst h; rfl
theorem pC_f {a : Nat} (h : 196 ≤ a) : pC a = false := by
  unfold pC
  cases e : Nat.ble a 195 with
  | false => rfl
  | true => have := Nat.le_of_ble_eq_true e; omega
theorem aIn_0 {x : Int32} (k : aIn x.toInt [(0, 0, 1)]) : x = 0 := by
  obtain ⟨q, hq, a, b, -⟩ := k
  have e : q = (0, 0, 1) := by simpa using hq
  subst e
  have a : 0 ≤ x.toInt := a
  have b : x.toInt ≤ 0 := b
  exact Int32.toInt_inj.mp (by rw [show (0 : Int32).toInt = 0 by decide]; omega)
theorem aIn_n {x : Int32} {n : Int} (k : aIn x.toInt [(n, n, 1)]) : x.toInt = n := by
  obtain ⟨q, hq, a, b, -⟩ := k
  have e : q = (n, n, 1) := by simpa using hq
  subst e
  have a : n ≤ x.toInt := a
  have b : x.toInt ≤ n := b
  omega
/-- every end tells of a slot that it is 0, but those that answer x -/
def e0n (c : aCt) (x : Int) (a k : Nat) : Bool := c.2.2.2.1.all (fun p => decide (p.1 = some (.inl [(x, x, 1)])) || p.2.2.1.any (fun q => decide (q = ((a, k), [(0, 0, 1)]))))
theorem e0n_in {c : aCt} {x : Int} {a k : Nat} {v : Option zV} {p : aPo} {h' : zH} (hk : e0n c x a k = true) (hp : p ∈ c.2.2.2.1) (hr : aRet v p.1) (hv : ∀ y : Int32, v = some (.inl y) → y.toInt ≠ x) (hs : ∀ q ∈ p.2.2.1, aIn (h'.2.1 q.1.1 q.1.2).toInt q.2) : h'.2.1 a k = 0 := by
  have := List.all_eq_true.mp hk p hp
  rw [Bool.or_eq_true] at this
  rcases this with z | z
  · have z := of_decide_eq_true z
    rw [z] at hr
    obtain ⟨y, e, hx⟩ := hr
    exact absurd (aIn_n hx) (hv y e)
  · obtain ⟨q, hq, e⟩ := List.any_eq_true.mp z
    have e := of_decide_eq_true e
    subst e
    exact aIn_0 (hs _ hq)
section HP
variable {d s : Nat} {h : zH} {x : Int32}
theorem in_ex {y : Int32} : zCi d mX12_in [.inl x, .inl 0, .inl y] h (fun r h' => h' = h ∧ ((r = 1 ∧ (0 ≤ x.toInt ∧ x.toInt ≤ y.toInt)) ∨ (r = 0 ∧ ¬ (0 ≤ x.toInt ∧ x.toInt ≤ y.toInt)))) := by
  have k0 : (0 : Int32).toInt = 0 := by decide
  show zEx none d mX12_in (0, [(0, .inl x), (1, .inl 0), (2, .inl y)], [], h) _
  refine ex_iload_n (pc' := 1) dX12_in_0 rfl rfl ?_
  refine ex_iload_n (pc' := 2) dX12_in_1 rfl rfl ?_
  refine ex_icmp (pc' := 14) (pc2 := 5) dX12_in_2 (by decide) rfl (fun c => ?_) (fun c => ?_)
  · refine ex_iconst (v := 0) (pc' := 15) dX12_in_14 (by decide) rfl ?_
    exact ex_iretI dX12_in_15 rfl rfl ⟨rfl, .inr ⟨rfl, fun q => by have := zi_lt c; omega⟩⟩
  · refine ex_iload_n (pc' := 6) dX12_in_5 rfl rfl ?_
    refine ex_iload_n (pc' := 7) dX12_in_6 rfl rfl ?_
    refine ex_icmp (pc' := 14) (pc2 := 10) dX12_in_7 (by decide) rfl (fun c2 => ?_) (fun c2 => ?_)
    · refine ex_iconst (v := 0) (pc' := 15) dX12_in_14 (by decide) rfl ?_
      exact ex_iretI dX12_in_15 rfl rfl ⟨rfl, .inr ⟨rfl, fun q => by have := zi_gt c2; omega⟩⟩
    · refine ex_iconst (v := 1) (pc' := 11) dX12_in_10 (by decide) rfl ?_
      refine ex_goto (pc' := 15) dX12_in_11 (by decide) ?_
      exact ex_iretI dX12_in_15 rfl rfl ⟨rfl, .inl ⟨rfl, by have := zi_nlt c; omega, zi_ngt c2⟩⟩
theorem P_post12 (ho : hOK wd h) (ht : h.2.1 196 2 = nI s) (hs : s ≤ 1000) (hd : 7 ≤ d + 1) : zCt (d + 1) mX12_post [.inr (.inr (some 196)), .inl x] h (fun v h' => (∃ y : Int32, v = some (.inl y)) ∧ hOK wd h' ∧ h'.1 = h.1 ∧ h'.2.2.2.2 = h.2.2.2.2 ∧ h'.2.1 0 1 = h.2.1 0 1 ∧ (∀ a k, h'.2.2.2.1 a k = h.2.2.2.1 a k) ∧ h'.2.1 196 2 = pSz x s ∧ (∀ a k, a < 196 ∨ a = 197 → h'.2.1 a k = h.2.1 a k) ∧ ∀ y : Int32, v = some (.inl y) → y ≠ -1 → h'.2.1 196 11 = 0 ∧ h'.2.1 196 13 = 0 ∧ h'.2.1 196 21 = 0) := by
  have s0 : zsh h 196 = some (12, 39) := ho.1 196 (12, 39) (by decide +kernel)
  show zEx none (d + 1) mX12_post (0, [(0, .inr (.inr (some 196))), (1, .inl x)], [], h) _
  refine ex_aload_n (pc' := 1) dX12_post_0 rfl rfl ?_
  refine ex_callv (pc' := 4) (vs := []) (rest := []) (n := 39) dX12_post_1 ml_12_167 ⟨zble rfl, zble rfl⟩ rfl rfl s0 (by decide) (zble rfl) rfl (S_651 d (Nat.zero_le _) [.inr (.inr (some 196))] h ⟨⟨196, List.mem_cons_self, rfl⟩, trivial⟩ ho ⟨fun q hq => (nomatch hq), fun q hq => (nomatch hq)⟩) (fun r h1 hq => ?_)
  obtain ⟨ho1, hf1, p, hp, hret, -, hpre1, -⟩ := hq
  have hall : ct_651.2.2.2.1.all (fun p => decide (p.1 = none)) = true := by decide +kernel
  have er : r = none := by
    rw [of_decide_eq_true (List.all_eq_true.mp hall p hp)] at hret
    exact hret
  have t11 : h1.2.1 196 11 = 0 := e0n_in (c := ct_651) (x := 0) (by decide +kernel) hp hret (fun y e => by rw [er] at e; cases e) hpre1
  subst er
  have t1 : h1.2.1 196 2 = nI s := (hf1.2.2.1 196 2 (by decide)).trans ht
  have s1 : zsh h1 196 = some (12, 39) := ho1.1 196 (12, 39) (by decide +kernel)
  show zEx none (d + 1) mX12_post (4, [(0, .inr (.inr (some 196))), (1, .inl x)], [], h1) _
  refine ex_iload_n (pc' := 5) dX12_post_4 rfl rfl ?_
  refine ex_iconst (v := 0) (pc' := 6) dX12_post_5 (by decide) rfl ?_
  refine ex_aload_n (pc' := 7) dX12_post_6 rfl rfl ?_
  refine ex_getI (pc' := 10) (n := 39) (v := nI s) dX12_post_7 fl_12_68 s1 (by decide) t1 rfl ?_
  refine ex_callsI (pc' := 13) (kd := 1) (vs := [.inl x, .inl 0, .inl (nI s)]) (rest := []) dX12_post_10 ml_12_149 (.inl rfl) ⟨zble rfl, zble rfl⟩ rfl rfl (zble rfl) rfl in_ex (fun r h2 hq => ?_)
  obtain ⟨eh, hq⟩ := hq
  subst eh
  rw [nI_toInt (by omega)] at hq
  rcases hq with ⟨e, c⟩ | ⟨e, c⟩
  · subst e
    refine ex_if_t (pc' := 22) dX12_post_13 (by decide) (by decide) ?_
    refine ex_aload_n (pc' := 23) dX12_post_22 rfl rfl ?_
    refine ex_iconst (v := 0) (pc' := 24) dX12_post_23 (by decide) rfl ?_
    refine ex_putI (pc' := 27) (n := 39) dX12_post_24 fl_12_68 s1 (Or.inl rfl) (Or.inl rfl) rfl ?_
    have ho2 : hOK wd (zsI h2 196 2 0) := hOK_set (aLe_in (A := [(0, 0, 1)]) (by decide +kernel) (aR1_in (lo := 0) (hi := 0) (by decide) (by decide))) (by decide +kernel) ho1
    have t2 : (zsI h2 196 2 0).2.1 196 2 = 0 := by rw [zsI_at, if_pos ⟨rfl, rfl⟩]
    have key := SE_1104 (d + 1) hd [] nE_1104_0 List.mem_cons_self (27, [(0, .inr (.inr (some 196))), (1, .inl x)], [], zsI h2 196 2 0) ⟨rfl, (fun q hq => by
      rcases List.mem_cons.mp hq with e | hq
      · subst e; exact ⟨_, rfl, 196, List.mem_cons_self, rfl⟩
      · rcases List.mem_cons.mp hq with e | hq
        · subst e; exact ⟨_, rfl, x, rfl, aR1_in (lo := 0) (hi := 1000) c.1 (by omega)⟩
        · cases hq), trivial, ⟨(fun q hq => by
      have e : q = ((196, 2), [(0, 0, 1)]) ∨ q = ((196, 11), [(0, 0, 1)]) := by simpa using (show q ∈ [(((196, 2), [(0, 0, 1)]) : (Nat × Nat) × aI), ((196, 11), [(0, 0, 1)])] from hq)
      rcases e with e | e
      · subst e
        show aIn ((zsI h2 196 2 0).2.1 196 2).toInt [(0, 0, 1)]
        rw [t2]
        exact aR1_in (lo := 0) (hi := 0) (by decide) (by decide)
      · subst e
        show aIn ((zsI h2 196 2 0).2.1 196 11).toInt [(0, 0, 1)]
        rw [zsI_no (by omega), t11]
        exact aR1_in (lo := 0) (hi := 0) (by decide) (by decide)), fun q hq => (nomatch hq)⟩, ho2, hFr.rf⟩
    refine zEx.mono key (fun v h' hq => ?_)
    obtain ⟨ho3, hf3, p, hp, hret, -, hpre, -⟩ := hq
    have e01 : h'.2.1 0 1 = h.2.1 0 1 := by
      rw [hf3.2.2.1 0 1 (by decide)]
      show (zsI h2 196 2 0).2.1 0 1 = _
      rw [zsI_no (by omega)]
      exact hf1.2.2.1 0 1 (by decide)
    have er : ∀ a k, h'.2.2.2.1 a k = h.2.2.2.1 a k := fun a k => (hf3.2.2.2.1 a k rfl).trans (hf1.2.2.2.1 a k rfl)
    have hall : ctE_1104.2.2.2.1.all (fun p => (match p.1 with | some (.inl _) => true | _ => false)) = true := by decide +kernel
    have hb := List.all_eq_true.mp hall p hp
    have hz : h'.2.1 196 2 = 0 := (hf3.2.2.1 196 2 (by decide)).trans t2
    refine ⟨?_, ho3, hf3.1.trans hf1.1, hf3.2.1.trans hf1.2.1, e01, er, by rw [hz, pSz, if_pos c], fun a k ha => ((hf3.2.2.1 a k (inM_by pM (by decide +kernel) (pM_f ha))).trans (zsI_no (by omega))).trans (hf1.2.2.1 a k (inM_by pM (by decide +kernel) (pM_f ha))), fun y ey hy => ?_⟩
    rotate_left
    · have hv : ∀ z : Int32, v = some (.inl z) → z.toInt ≠ -1 := fun z ez w => by
        rw [ey] at ez
        cases ez
        exact hy (Int32.toInt_inj.mp (by rw [w]; decide))
      exact ⟨e0n_in (c := ctE_1104) (x := -1) (by decide +kernel) hp hret hv hpre, e0n_in (c := ctE_1104) (x := -1) (by decide +kernel) hp hret hv hpre, e0n_in (c := ctE_1104) (x := -1) (by decide +kernel) hp hret hv hpre⟩
    obtain ⟨p1, p2⟩ := p
    match p1, hb, hret with
    | some (.inl A), _, ⟨y, e, _⟩ => exact ⟨y, e⟩
  · subst e
    refine ex_if_f (pc' := 16) dX12_post_13 (by decide) (by decide) rfl ?_
    refine ex_aload_n (pc' := 17) dX12_post_16 rfl rfl ?_
    refine ex_iconst (v := 2) (pc' := 18) dX12_post_17 (by decide) rfl ?_
    refine ex_callv (pc' := 21) (vs := [.inl 2]) (rest := []) (n := 39) dX12_post_18 ml_12_170 ⟨zble rfl, zble rfl⟩ rfl rfl s1 (by decide) (zble rfl) rfl (S_653 d (Nat.zero_le _) [.inr (.inr (some 196)), .inl 2] h2 ⟨⟨196, List.mem_cons_self, rfl⟩, ⟨2, rfl, aR1_in (lo := 2) (hi := 2) (by decide) (by decide)⟩, trivial⟩ ho1 ⟨(fun q hq => by
      have e : q = ((196, 11), [(0, 0, 1)]) := by simpa using (show q ∈ [(((196, 11), [(0, 0, 1)]) : (Nat × Nat) × aI)] from hq)
      subst e
      show aIn (h2.2.1 196 11).toInt [(0, 0, 1)]
      rw [t11]
      exact aR1_in (lo := 0) (hi := 0) (by decide) (by decide)), fun q hq => (nomatch hq)⟩) (fun r h3 hq => ?_)
    obtain ⟨ho3, hf3, p, hp, hret, -⟩ := hq
    have hall : ct_653.2.2.2.1.all (fun p => decide (p.1 = some (.inl [(-1, -1, 1)]))) = true := by decide +kernel
    rw [of_decide_eq_true (List.all_eq_true.mp hall p hp)] at hret
    obtain ⟨y, e, hy⟩ := hret
    subst e
    show zEx none (d + 1) mX12_post (21, [(0, .inr (.inr (some 196))), (1, .inl x)], [.inl y], h3) _
    refine ex_iret dX12_post_21 rfl rfl ⟨⟨y, rfl⟩, ho3, hf3.1.trans hf1.1, hf3.2.1.trans hf1.2.1, (hf3.2.2.1 0 1 (by decide)).trans (hf1.2.2.1 0 1 (by decide)), fun a k => (hf3.2.2.2.1 a k rfl).trans (hf1.2.2.2.1 a k rfl), ?_, fun a k ha => (hf3.2.2.1 a k (inM_by pM (by decide +kernel) (pM_f ha))).trans (hf1.2.2.1 a k (inM_by pM (by decide +kernel) (pM_f ha))), fun z ez hz => absurd (show z = -1 by
      cases ez
      exact Int32.toInt_inj.mp (by rw [aIn_n hy]; decide)) hz⟩
    rw [hf3.2.2.1 196 2 (by decide), t1, pSz, if_neg c]
theorem P_post11_0 (ho : hOK wd h) (hr : lV h rv0) (ht : h.2.1 0 1 = nI s) (hs : s ≤ 1000) (hd : 6 ≤ d + 1) : zCt (d + 1) mX11_post [.inr (.inr (some 0)), .inl x] h (fun v h' => (∃ y : Int32, v = some (.inl y)) ∧ hOK wd h' ∧ h'.1 = h.1 ∧ h'.2.2.2.2 = h.2.2.2.2 ∧ h'.2.1 196 2 = h.2.1 196 2 ∧ (lV h' rv0 ∨ lV h' rv1) ∧ h'.2.1 0 1 = pSz x s ∧ ∀ a k, 196 ≤ a → h'.2.1 a k = h.2.1 a k) := by
  have s0 : zsh h 0 = some (11, 16) := ho.1 0 (11, 16) (by decide +kernel)
  have k0 : (0 : Int32).toInt = 0 := by decide
  have kno : ¬ (0 ≤ x.toInt ∧ x.toInt ≤ (s : Int)) → zEx none (d + 1) mX11_post (12, [(0, .inr (.inr (some 0))), (1, .inl x)], [], h) (fun v h' => (∃ y : Int32, v = some (.inl y)) ∧ hOK wd h' ∧ h'.1 = h.1 ∧ h'.2.2.2.2 = h.2.2.2.2 ∧ h'.2.1 196 2 = h.2.1 196 2 ∧ (lV h' rv0 ∨ lV h' rv1) ∧ h'.2.1 0 1 = pSz x s ∧ ∀ a k, 196 ≤ a → h'.2.1 a k = h.2.1 a k) := by
    intro c
    have key := SN_p12_0 (d := d + 1) (vs := []) (by show 1 ≤ d + 1; omega) (12, [(0, .inr (.inr (some 0))), (1, .inl x)], [], h) ⟨rfl, (fun q hq => by
      rcases List.mem_cons.mp hq with e | hq
      · subst e; exact ⟨_, rfl, 0, List.mem_cons_self, rfl⟩
      · rcases List.mem_cons.mp hq with e | hq
        · subst e; exact ⟨_, rfl, x, rfl, aIn_top x⟩
        · cases hq), trivial, ⟨fun q hq => (nomatch hq), hr⟩, ho, hFr.rf⟩
    refine zEx.mono key (fun v h' hq => ?_)
    obtain ⟨ho3, hf3, p, hp, hret, -⟩ := hq
    have hall : ct_p12_0.2.2.2.1.all (fun p => decide (p.1 = some (.inl [(-1, -1, 1)]))) = true := by decide +kernel
    rw [of_decide_eq_true (List.all_eq_true.mp hall p hp)] at hret
    obtain ⟨y, e, -⟩ := hret
    refine ⟨⟨y, e⟩, ho3, hf3.1, hf3.2.1, hf3.2.2.1 196 2 (by decide), ?_, ?_, fun a k ha => hf3.2.2.1 a k (inM_by pC (by decide +kernel) (pC_f ha))⟩
    · have : lV h' rv0 := fun q hq => (hf3.2.2.2.1 q.1.1 q.1.2 rfl).trans (hr q hq)
      exact .inl this
    · rw [hf3.2.2.1 0 1 (by decide), pSz, if_neg c]
      exact ht
  show zEx none (d + 1) mX11_post (0, [(0, .inr (.inr (some 0))), (1, .inl x)], [], h) _
  refine ex_iload_n (pc' := 1) dX11_post_0 rfl rfl ?_
  refine ex_if (pc' := 12) (pc2 := 4) dX11_post_1 (by decide) rfl (fun c => kno (fun q => by have := zi_lt c; omega)) (fun c => ?_)
  refine ex_iload_n (pc' := 5) dX11_post_4 rfl rfl ?_
  refine ex_aload_n (pc' := 6) dX11_post_5 rfl rfl ?_
  refine ex_getI (pc' := 9) (n := 16) (v := nI s) dX11_post_6 fl_11_13 s0 (by decide) ht rfl ?_
  refine ex_icmp (pc' := 18) (pc2 := 12) dX11_post_9 (by decide) rfl (fun c2 => ?_) (fun c2 => kno (fun q => by
    have := zi_gt (zk_le_gt c2)
    rw [nI_toInt (by omega)] at this
    omega))
  have c3 := zi_ngt (zk_le_gt c2)
  rw [nI_toInt (by omega)] at c3
  have c1 := zi_nlt c
  have c : 0 ≤ x.toInt ∧ x.toInt ≤ (s : Int) := ⟨by omega, c3⟩
  refine ex_aload_n (pc' := 19) dX11_post_18 rfl rfl ?_
  refine ex_iconst (v := 0) (pc' := 20) dX11_post_19 (by decide) rfl ?_
  refine ex_putI (pc' := 23) (n := 16) dX11_post_20 fl_11_13 s0 (Or.inl rfl) (Or.inl rfl) rfl ?_
  have ho2 : hOK wd (zsI h 0 1 0) := hOK_set (aLe_in (A := [(0, 0, 1)]) (by decide +kernel) (aR1_in (lo := 0) (hi := 0) (by decide) (by decide))) (by decide +kernel) ho
  have t2 : (zsI h 0 1 0).2.1 0 1 = 0 := by rw [zsI_at, if_pos ⟨rfl, rfl⟩]
  have key := SN_p23_0 (d := d + 1) (vs := []) hd (23, [(0, .inr (.inr (some 0))), (1, .inl x)], [], zsI h 0 1 0) ⟨rfl, (fun q hq => by
      rcases List.mem_cons.mp hq with e | hq
      · subst e; exact ⟨_, rfl, 0, List.mem_cons_self, rfl⟩
      · rcases List.mem_cons.mp hq with e | hq
        · subst e; exact ⟨_, rfl, x, rfl, aR1_in (lo := 0) (hi := 1000) c.1 (by omega)⟩
        · cases hq), trivial, ⟨(fun q hq => by
      have e : q = ((0, 1), [(0, 0, 1)]) := by simpa using (show q ∈ [(((0, 1), [(0, 0, 1)]) : (Nat × Nat) × aI)] from hq)
      subst e
      show aIn ((zsI h 0 1 0).2.1 0 1).toInt [(0, 0, 1)]
      rw [t2]
      exact aR1_in (lo := 0) (hi := 0) (by decide) (by decide)), hr⟩, ho2, hFr.rf⟩
  refine zEx.mono key (fun v h' hq => ?_)
  obtain ⟨ho3, hf3, p, hp, hret, -, hpre, hpr⟩ := hq
  have e01 : h'.2.1 196 2 = h.2.1 196 2 := by
    rw [hf3.2.2.1 196 2 (by decide)]
    show (zsI h 0 1 0).2.1 196 2 = _
    rw [zsI_no (by omega)]
  have hz : h'.2.1 0 1 = 0 := by
    rw [hf3.2.2.1 0 1 (by decide)]
    exact t2
  have hall : ct_p23_0.2.2.2.1.all (fun p => (match p.1 with | some (.inl _) => true | _ => false) && (rv0.all (fun q => p.2.2.2.any (fun r => decide (r = q))) || rv1.all (fun q => p.2.2.2.any (fun r => decide (r = q))))) = true := by decide +kernel
  have hb := List.all_eq_true.mp hall p hp
  rw [Bool.and_eq_true, Bool.or_eq_true] at hb
  have hvv : ∀ rv : aU, rv.all (fun q => p.2.2.2.any (fun r => decide (r = q))) = true → lV h' rv := fun rv ha q hq => by
    obtain ⟨r, hr, er⟩ := List.any_eq_true.mp (List.all_eq_true.mp ha q hq)
    have er := of_decide_eq_true er
    subst er
    exact hpr r hr
  refine ⟨?_, ho3, hf3.1, hf3.2.1, e01, hb.2.elim (fun z => .inl (hvv _ z)) (fun z => .inr (hvv _ z)), by rw [hz, pSz, if_pos c], fun a k ha => (hf3.2.2.1 a k (inM_by pC (by decide +kernel) (pC_f ha))).trans (zsI_no (by omega))⟩
  obtain ⟨p1, p2⟩ := p
  match p1, hb.1, hret with
  | some (.inl A), _, ⟨y, e, _⟩ => exact ⟨y, e⟩
theorem P_post11_1 (ho : hOK wd h) (hr : lV h rv1) (ht : h.2.1 0 1 = nI s) (hs : s ≤ 1000) (hd : 6 ≤ d + 1) : zCt (d + 1) mX11_post [.inr (.inr (some 0)), .inl x] h (fun v h' => (∃ y : Int32, v = some (.inl y)) ∧ hOK wd h' ∧ h'.1 = h.1 ∧ h'.2.2.2.2 = h.2.2.2.2 ∧ h'.2.1 196 2 = h.2.1 196 2 ∧ (lV h' rv0 ∨ lV h' rv1) ∧ h'.2.1 0 1 = pSz x s ∧ ∀ a k, 196 ≤ a → h'.2.1 a k = h.2.1 a k) := by
  have s0 : zsh h 0 = some (11, 16) := ho.1 0 (11, 16) (by decide +kernel)
  have k0 : (0 : Int32).toInt = 0 := by decide
  have kno : ¬ (0 ≤ x.toInt ∧ x.toInt ≤ (s : Int)) → zEx none (d + 1) mX11_post (12, [(0, .inr (.inr (some 0))), (1, .inl x)], [], h) (fun v h' => (∃ y : Int32, v = some (.inl y)) ∧ hOK wd h' ∧ h'.1 = h.1 ∧ h'.2.2.2.2 = h.2.2.2.2 ∧ h'.2.1 196 2 = h.2.1 196 2 ∧ (lV h' rv0 ∨ lV h' rv1) ∧ h'.2.1 0 1 = pSz x s ∧ ∀ a k, 196 ≤ a → h'.2.1 a k = h.2.1 a k) := by
    intro c
    have key := SN_p12_1 (d := d + 1) (vs := []) (by show 1 ≤ d + 1; omega) (12, [(0, .inr (.inr (some 0))), (1, .inl x)], [], h) ⟨rfl, (fun q hq => by
      rcases List.mem_cons.mp hq with e | hq
      · subst e; exact ⟨_, rfl, 0, List.mem_cons_self, rfl⟩
      · rcases List.mem_cons.mp hq with e | hq
        · subst e; exact ⟨_, rfl, x, rfl, aIn_top x⟩
        · cases hq), trivial, ⟨fun q hq => (nomatch hq), hr⟩, ho, hFr.rf⟩
    refine zEx.mono key (fun v h' hq => ?_)
    obtain ⟨ho3, hf3, p, hp, hret, -⟩ := hq
    have hall : ct_p12_1.2.2.2.1.all (fun p => decide (p.1 = some (.inl [(-1, -1, 1)]))) = true := by decide +kernel
    rw [of_decide_eq_true (List.all_eq_true.mp hall p hp)] at hret
    obtain ⟨y, e, -⟩ := hret
    refine ⟨⟨y, e⟩, ho3, hf3.1, hf3.2.1, hf3.2.2.1 196 2 (by decide), ?_, ?_, fun a k ha => hf3.2.2.1 a k (inM_by pC (by decide +kernel) (pC_f ha))⟩
    · have : lV h' rv1 := fun q hq => (hf3.2.2.2.1 q.1.1 q.1.2 rfl).trans (hr q hq)
      exact .inr this
    · rw [hf3.2.2.1 0 1 (by decide), pSz, if_neg c]
      exact ht
  show zEx none (d + 1) mX11_post (0, [(0, .inr (.inr (some 0))), (1, .inl x)], [], h) _
  refine ex_iload_n (pc' := 1) dX11_post_0 rfl rfl ?_
  refine ex_if (pc' := 12) (pc2 := 4) dX11_post_1 (by decide) rfl (fun c => kno (fun q => by have := zi_lt c; omega)) (fun c => ?_)
  refine ex_iload_n (pc' := 5) dX11_post_4 rfl rfl ?_
  refine ex_aload_n (pc' := 6) dX11_post_5 rfl rfl ?_
  refine ex_getI (pc' := 9) (n := 16) (v := nI s) dX11_post_6 fl_11_13 s0 (by decide) ht rfl ?_
  refine ex_icmp (pc' := 18) (pc2 := 12) dX11_post_9 (by decide) rfl (fun c2 => ?_) (fun c2 => kno (fun q => by
    have := zi_gt (zk_le_gt c2)
    rw [nI_toInt (by omega)] at this
    omega))
  have c3 := zi_ngt (zk_le_gt c2)
  rw [nI_toInt (by omega)] at c3
  have c1 := zi_nlt c
  have c : 0 ≤ x.toInt ∧ x.toInt ≤ (s : Int) := ⟨by omega, c3⟩
  refine ex_aload_n (pc' := 19) dX11_post_18 rfl rfl ?_
  refine ex_iconst (v := 0) (pc' := 20) dX11_post_19 (by decide) rfl ?_
  refine ex_putI (pc' := 23) (n := 16) dX11_post_20 fl_11_13 s0 (Or.inl rfl) (Or.inl rfl) rfl ?_
  have ho2 : hOK wd (zsI h 0 1 0) := hOK_set (aLe_in (A := [(0, 0, 1)]) (by decide +kernel) (aR1_in (lo := 0) (hi := 0) (by decide) (by decide))) (by decide +kernel) ho
  have t2 : (zsI h 0 1 0).2.1 0 1 = 0 := by rw [zsI_at, if_pos ⟨rfl, rfl⟩]
  have key := SN_p23_1 (d := d + 1) (vs := []) hd (23, [(0, .inr (.inr (some 0))), (1, .inl x)], [], zsI h 0 1 0) ⟨rfl, (fun q hq => by
      rcases List.mem_cons.mp hq with e | hq
      · subst e; exact ⟨_, rfl, 0, List.mem_cons_self, rfl⟩
      · rcases List.mem_cons.mp hq with e | hq
        · subst e; exact ⟨_, rfl, x, rfl, aR1_in (lo := 0) (hi := 1000) c.1 (by omega)⟩
        · cases hq), trivial, ⟨(fun q hq => by
      have e : q = ((0, 1), [(0, 0, 1)]) := by simpa using (show q ∈ [(((0, 1), [(0, 0, 1)]) : (Nat × Nat) × aI)] from hq)
      subst e
      show aIn ((zsI h 0 1 0).2.1 0 1).toInt [(0, 0, 1)]
      rw [t2]
      exact aR1_in (lo := 0) (hi := 0) (by decide) (by decide)), hr⟩, ho2, hFr.rf⟩
  refine zEx.mono key (fun v h' hq => ?_)
  obtain ⟨ho3, hf3, p, hp, hret, -, hpre, hpr⟩ := hq
  have e01 : h'.2.1 196 2 = h.2.1 196 2 := by
    rw [hf3.2.2.1 196 2 (by decide)]
    show (zsI h 0 1 0).2.1 196 2 = _
    rw [zsI_no (by omega)]
  have hz : h'.2.1 0 1 = 0 := by
    rw [hf3.2.2.1 0 1 (by decide)]
    exact t2
  have hall : ct_p23_1.2.2.2.1.all (fun p => (match p.1 with | some (.inl _) => true | _ => false) && (rv0.all (fun q => p.2.2.2.any (fun r => decide (r = q))) || rv1.all (fun q => p.2.2.2.any (fun r => decide (r = q))))) = true := by decide +kernel
  have hb := List.all_eq_true.mp hall p hp
  rw [Bool.and_eq_true, Bool.or_eq_true] at hb
  have hvv : ∀ rv : aU, rv.all (fun q => p.2.2.2.any (fun r => decide (r = q))) = true → lV h' rv := fun rv ha q hq => by
    obtain ⟨r, hr, er⟩ := List.any_eq_true.mp (List.all_eq_true.mp ha q hq)
    have er := of_decide_eq_true er
    subst er
    exact hpr r hr
  refine ⟨?_, ho3, hf3.1, hf3.2.1, e01, hb.2.elim (fun z => .inl (hvv _ z)) (fun z => .inr (hvv _ z)), by rw [hz, pSz, if_pos c], fun a k ha => (hf3.2.2.1 a k (inM_by pC (by decide +kernel) (pC_f ha))).trans (zsI_no (by omega))⟩
  obtain ⟨p1, p2⟩ := p
  match p1, hb.1, hret with
  | some (.inl A), _, ⟨y, e, _⟩ => exact ⟨y, e⟩
end HP
