/-! the class: post -/
section PCL
variable {R0 : Nat → Nat → Int32} {y : Nat → Int32} {n d N s c : Nat} {h h' g : zH} {A : pA}
theorem inM_out {md : aMd} {a k : Nat} (hm : md.all (fun q => !(Nat.beq q.1 a)) = true) : inM md a k = false := by
  unfold inM
  rw [List.any_eq_false]
  intro q hq z
  have := List.all_eq_true.mp hm q hq
  rw [Bool.and_eq_true] at z
  rw [z.1] at this
  cases this
theorem inM_mid {md : aMd} {a k : Nat} (hm : md.all (fun q => Nat.ble q.1 1 || Nat.ble 82 q.1) = true) (h1 : 2 ≤ a) (h2 : a < 82) : inM md a k = false := by
  refine inM_out (List.all_eq_true.mpr (fun q hq => ?_))
  have := List.all_eq_true.mp hm q hq
  rw [Bool.or_eq_true] at this
  rw [Bool.not_eq_true']
  cases e : Nat.beq q.1 a with
  | false => rfl
  | true =>
    have e := Nat.eq_of_beq_eq_true e
    rcases this with z | z
    · have := Nat.le_of_ble_eq_true z; omega
    · have := Nat.le_of_ble_eq_true z; omega
theorem rcC.frM (hc : cc2 c) (hI : pI A) (e : ∀ a k, 2 ≤ a → a < 82 → h'.2.1 a k = h.2.1 a k) (K : rcC A c h) : rcC A c h' := by
  obtain ⟨q0, q4, q5, q6, q7, q8, qs, qw, qp, qx⟩ := K
  obtain ⟨b1, b2, b3, b4, b5⟩ := hI.2.2.1
  have hc : c = 2 ∨ c = 42 := hc
  refine ⟨?_, ?_, ?_, ?_, ?_, ?_, fun i hi => ?_, fun i hi => ?_, fun i hi => ?_, fun j hj => ⟨(qx j hj).1, (e _ _ (by omega) (by have := oX_le (qx j hj).1 b2 b3 b4 b5; omega)).trans (qx j hj).2⟩⟩
  · rw [e _ _ (by omega) (by omega)]; exact q0
  · rw [e _ _ (by omega) (by omega)]; exact q4
  · rw [e _ _ (by omega) (by omega)]; exact q5
  · rw [e _ _ (by omega) (by omega)]; exact q6
  · rw [e _ _ (by omega) (by omega)]; exact q7
  · rw [e _ _ (by omega) (by omega)]; exact q8
  · rw [e _ _ (by omega) (by omega), e _ _ (by omega) (by omega)]; exact qs i hi
  · rw [e _ _ (by omega) (by omega), e _ _ (by omega) (by omega)]; exact qw i hi
  · rw [e _ _ (by omega) (by omega), e _ _ (by omega) (by omega)]; exact qp i hi
theorem sText_cI : ∀ (f : Nat) (A : pA) (p : Nat) {B : pA}, sText y n f A p = .inr B → cI B ≠ 0 := by
  intro f
  induction f with
  | zero => intro A p B e; cases e
  | succ f ih =>
    intro A p B e
    rw [sText_fin] at e
    unfold sFin at e
    split at e
    · cases e
    · split at e
      · split at e
        · cases e
        · next z =>
          cases e
          exact z
      · split at e
        · exact ih _ _ e
        · cases e
/-- every end tells of a slot that it is 0, but those that answer 0 -/
def e0s (c : aCt) (a k : Nat) : Bool := c.2.2.2.1.all (fun p => decide (p.1 = some (.inl [(0, 0, 1)])) || p.2.2.1.any (fun q => decide (q = ((a, k), [(0, 0, 1)]))))
theorem e0s_in {c : aCt} {a k : Nat} {v : Option zV} {p : aPo} (hk : e0s c a k = true) (hp : p ∈ c.2.2.2.1) (hr : aRet v p.1) (hv : ∀ x, v = some (.inl x) → x ≠ 0) (hs : ∀ q ∈ p.2.2.1, aIn (h'.2.1 q.1.1 q.1.2).toInt q.2) : h'.2.1 a k = 0 := by
  have := List.all_eq_true.mp hk p hp
  rw [Bool.or_eq_true] at this
  rcases this with z | z
  · have z := of_decide_eq_true z
    rw [z] at hr
    obtain ⟨x, e, hx⟩ := hr
    exact absurd (aIn_0 hx) (hv x e)
  · obtain ⟨q, hq, e⟩ := List.any_eq_true.mp z
    have e := of_decide_eq_true e
    subst e
    exact aIn_0 (hs _ hq)
theorem pB_f {a b : Nat} (h1 : b ≤ a) (h2 : a < b + 40) : (Nat.ble (a + 1) b || Nat.ble (b + 40) a) = false := by
  rw [Bool.or_eq_false_iff]
  constructor
  · cases e : Nat.ble (a + 1) b with
    | false => rfl
    | true => have := Nat.le_of_ble_eq_true e; omega
  · cases e : Nat.ble (b + 40) a with
    | false => rfl
    | true => have := Nat.le_of_ble_eq_true e; omega
def pcR (c b : Nat) (h : zH) (r : sF ⊕ pA) (v : Option zV) (h' : zH) : Prop := match r with
  | .inl e => v = some (.inl (-1)) ∧ fl e h' ∧ h'.2.1 0 2 = 4 ∧ (∀ a k, b ≤ a → a < b + 40 → h'.2.1 a k = h.2.1 a k) ∧ h'.2.2.2.1 0 3 = h.2.2.2.1 0 3 ∧ h'.2.1 0 15 = h.2.1 0 15
  | .inr A => v = some (.inl (nI (cI A))) ∧ rcC A c h' ∧ pI A ∧ h'.2.2.2.1 0 3 = some c ∧ h'.2.1 82 11 = 0 ∧ h'.2.1 0 2 = 0 ∧ h'.2.1 0 15 = 0 ∧ cI A ≠ 0
theorem c_ref {k : Int32} (s0 : zsh h 0 = some (11, 16)) : zPa d mX11_refused [.inr (.inr (some 0)), .inl k] h (fun v h' => v = some (.inl (-1)) ∧ h' = zsI h 0 2 k) := by
  intro N
  show zPn N none d mX11_refused (0, [(0, .inr (.inr (some 0))), (1, .inl k)], [], h) _
  refine pa_aload_n (pc' := 1) dX11_refused_0 rfl rfl ?_
  refine pa_iload_n (pc' := 2) dX11_refused_1 rfl rfl ?_
  refine pa_putI (pc' := 5) (n := 16) dX11_refused_2 fl_11_17 s0 (Or.inl rfl) (Or.inl rfl) rfl ?_
  refine pa_iconst (v := (-1)) (pc' := 6) dX11_refused_5 (by decide) rfl ?_
  exact pa_iret dX11_refused_6 rfl rfl ⟨rfl, rfl⟩
theorem c_gra {k : Int32} (s0 : zsh h 0 = some (11, 16)) : zPa d mX11_granted [.inr (.inr (some 0)), .inl k] h (fun v h' => v = some (.inl k) ∧ h' = zsI h 0 2 0) := by
  intro N
  show zPn N none d mX11_granted (0, [(0, .inr (.inr (some 0))), (1, .inl k)], [], h) _
  refine pa_aload_n (pc' := 1) dX11_granted_0 rfl rfl ?_
  refine pa_iconst (v := 0) (pc' := 2) dX11_granted_1 (by decide) rfl ?_
  refine pa_putI (pc' := 5) (n := 16) dX11_granted_2 fl_11_17 s0 (Or.inl rfl) (Or.inl rfl) rfl ?_
  refine pa_iload_n (pc' := 6) dX11_granted_5 rfl rfl ?_
  exact pa_iret dX11_granted_6 rfl rfl ⟨rfl, rfl⟩
theorem N_post11_0 (ho : hOK wd h) (e1 : h.1 = hh_487.1) (hr : lV h rv0) (ht : h.2.1 0 1 = nI s) (hs : s ≤ 1000) (hn : n ≤ s) (hd : 6 ≤ d + 1) : zPa (d + 1) mX11_post [.inr (.inr (some 0)), .inl (nI n)] h (pcR 42 2 h (sText (h.2.1 1) n (n + 1) pA0 0)) := by
  intro N
  have s0 : zsh h 0 = some (11, 16) := ho.1 0 (11, 16) (by decide +kernel)
  have k0 : (0 : Int32).toInt = 0 := by decide
  show zPn N none (d + 1) mX11_post (0, [(0, .inr (.inr (some 0))), (1, .inl (nI n))], [], h) _
  refine pa_iload_n (pc' := 1) dX11_post_0 rfl rfl ?_
  refine pa_if (pc' := 12) (pc2 := 4) dX11_post_1 (by decide) rfl (fun c => ?_) (fun c => ?_)
  · have := zi_lt c
    rw [nI_toInt (by omega), k0] at this
    omega
  refine pa_iload_n (pc' := 5) dX11_post_4 rfl rfl ?_
  refine pa_aload_n (pc' := 6) dX11_post_5 rfl rfl ?_
  refine pa_getI (pc' := 9) (n := 16) (v := nI s) dX11_post_6 fl_11_13 s0 (by decide) ht rfl ?_
  refine pa_icmp (pc' := 18) (pc2 := 12) dX11_post_9 (by decide) rfl (fun c2 => ?_) (fun c2 => ?_)
  rotate_left
  · have := zi_gt (zk_le_gt c2)
    rw [nI_toInt (by omega), nI_toInt (by omega)] at this
    omega
  refine pa_aload_n (pc' := 19) dX11_post_18 rfl rfl ?_
  refine pa_iconst (v := 0) (pc' := 20) dX11_post_19 (by decide) rfl ?_
  refine pa_putI (pc' := 23) (n := 16) dX11_post_20 fl_11_13 s0 (Or.inl rfl) (Or.inl rfl) rfl ?_
  have ho2 : hOK wd (zsI h 0 1 0) := hOK_set (aLe_in (A := [(0, 0, 1)]) (by decide +kernel) (aR1_in (lo := 0) (hi := 0) (by decide) (by decide))) (by decide +kernel) ho
  have r5 : (zsI h 0 1 0).2.2.2.1 0 5 = some 82 := ho2.2.2.1 0 5 82 (by decide +kernel)
  have r4 : (zsI h 0 1 0).2.2.2.1 0 4 = some 42 := hr ((0, 4), 42) (by decide)
  have hy : (zsI h 0 1 0).2.1 1 = h.2.1 1 := funext (fun k => zsI_no (by omega))
  refine pa_aload_n (pc' := 24) dX11_post_23 rfl rfl ?_
  refine pa_getR (pc' := 27) (n := 16) (r := 82) dX11_post_24 fl_11_35 s0 (by decide) r5 rfl ?_
  refine pa_iload_n (pc' := 28) dX11_post_27 rfl rfl ?_
  refine pa_aload_n (pc' := 29) dX11_post_28 rfl rfl ?_
  refine pa_getR (pc' := 32) (n := 16) (r := 42) dX11_post_29 fl_11_27 s0 (by decide) r4 rfl ?_
  refine pa_callv (pc' := 35) (vs := [.inl (nI n), .inr (.inr (some 42))]) (rest := []) dX11_post_32 ml_11_102 (by decide) rfl rfl rfl (fun d' hd' => zPa.two (zPa.of (S_62 d' (by show 5 ≤ d'; omega) [.inr (.inr (some 82)), .inl (nI n), .inr (.inr (some 42))] (zsI h 0 1 0) ⟨⟨82, List.mem_cons_self, rfl⟩, ⟨_, rfl, aR1_in (lo := 0) (hi := 1000) (by rw [nI_toInt (by omega)]; omega) (by rw [nI_toInt (by omega)]; omega)⟩, ⟨42, List.mem_cons_self, rfl⟩, trivial⟩ ho2 ⟨fun q hq => (nomatch hq), fun q hq => (nomatch hq)⟩)) (by
    obtain ⟨e, rfl⟩ : ∃ e, d' = e + 1 := ⟨d' - 1, by omega⟩
    exact C_text (y := h.2.1 1) (c := 42) (by unfold cc2; decide) e1 ho2.2.2.1 hy (by omega))) (fun v g hq => ?_)
  obtain ⟨⟨ho3, hf3, p3, hp3, hret3, -, hpre3, -⟩, hq⟩ := hq
  have s0g : zsh g 0 = some (11, 16) := ho3.1 0 (11, 16) (by decide +kernel)
  have hrg : lV g rv0 := fun q hq => (hf3.2.2.2.1 q.1.1 q.1.2 (by
    have : ∀ q ∈ rv0, inM [(82, 6, 7)] q.1.1 q.1.2 = false := by decide
    exact this q hq)).trans (hr q hq)
  cases er : sText (h.2.1 1) n (n + 1) pA0 0 with
  | inl e =>
    rw [er] at hq
    obtain ⟨ev, hf⟩ := hq
    subst ev
    show zPn N none (d + 1) mX11_post (35, [(0, .inr (.inr (some 0))), (1, .inl (nI n))], [.inl 0], g) _
    refine pa_if_f (x := 0) (pc' := 38) dX11_post_35 (by decide) (by decide) rfl ?_
    refine pa_aload_n (pc' := 39) dX11_post_38 rfl rfl ?_
    refine pa_iconst (v := 4) (pc' := 40) dX11_post_39 (by decide) rfl ?_
    refine pa_callv (pc' := 43) (vs := [.inl 4]) (rest := []) dX11_post_40 ml_11_98 (by decide) rfl rfl rfl (fun d' _ => c_ref s0g) (fun v g2 hq => ?_)
    obtain ⟨ev, eg⟩ := hq
    subst ev; subst eg
    exact pa_iret dX11_post_43 rfl rfl ⟨rfl, ⟨by rw [zsI_no (by omega)]; exact hf.1, by rw [zsI_no (by omega)]; exact hf.2⟩, zsI_eq, fun a k h1 h2 => ((zsI_no (by omega)).trans (hf3.2.2.1 a k (inM_by (fun x => Nat.ble (x + 1) 2 || Nat.ble (2 + 40) x) (by decide +kernel) (pB_f h1 h2)))).trans (zsI_no (by omega)), hf3.2.2.2.1 0 3 rfl, ((zsI_no (by omega)).trans (hf3.2.2.1 0 15 (by decide))).trans (zsI_no (by omega))⟩
  | inr A =>
    rw [er] at hq
    obtain ⟨ev, hC, hI⟩ := hq
    subst ev
    show zPn N none (d + 1) mX11_post (35, [(0, .inr (.inr (some 0))), (1, .inl (nI n))], [.inl 1], g) _
    refine pa_if_t (x := 1) (pc' := 44) dX11_post_35 (by decide) (by decide) ?_
    refine pa_aload_n (pc' := 45) dX11_post_44 rfl rfl ?_
    refine pa_callv (pc' := 48) (vs := []) (rest := []) dX11_post_45 ml_11_106 (by decide) rfl rfl rfl (fun d' hd' => zPa.of (S_64 d' (by show 1 ≤ d'; omega) [.inr (.inr (some 0))] g ⟨⟨0, List.mem_cons_self, rfl⟩, trivial⟩ ho3 ⟨fun q hq => (nomatch hq), hrg⟩)) (fun v g2 hq => ?_)
    obtain ⟨ho4, hf4, p, hp, hret, -, hpre, hpr⟩ := hq
    have hall : ct_64.2.2.2.1.all (fun p => decide (p.1 = none) && p.2.2.2.any (fun q => decide (q = ((0, 3), 42)))) = true := by decide +kernel
    have hb := List.all_eq_true.mp hall p hp
    rw [Bool.and_eq_true] at hb
    have ev : v = none := by
      rw [of_decide_eq_true hb.1] at hret
      exact hret
    have z15 : g2.2.1 0 15 = 0 := e0s_in (c := ct_64) (by decide +kernel) hp hret (fun x e => by rw [ev] at e; cases e) hpre
    have z11 : g.2.1 82 11 = 0 := e0s_in (c := ct_62) (by decide +kernel) hp3 hret3 (fun x e => by cases e; decide) hpre3
    subst ev
    have fr : ∀ a k, 2 ≤ a → a < 82 → g2.2.1 a k = g.2.1 a k := fun a k h1 h2 => hf4.2.2.1 a k (inM_mid (by decide) h1 h2)
    have s0h : zsh g2 0 = some (11, 16) := ho4.1 0 (11, 16) (by decide +kernel)
    have sch : zsh g2 42 = some (4, 15) := ho4.1 42 (4, 15) (by decide +kernel)
    have r3 : g2.2.2.2.1 0 3 = some 42 := by
      obtain ⟨q, hq, e⟩ := List.any_eq_true.mp hb.2
      have e := of_decide_eq_true e
      subst e
      exact hpr _ hq
    have k4 : g2.2.1 42 4 = nI (cI A) := (fr _ _ (by decide) (by decide)).trans hC.2.1
    show zPn N none (d + 1) mX11_post (48, [(0, .inr (.inr (some 0))), (1, .inl (nI n))], [], g2) _
    refine pa_aload_n (pc' := 49) dX11_post_48 rfl rfl ?_
    refine pa_aload_n (pc' := 50) dX11_post_49 rfl rfl ?_
    refine pa_getR (pc' := 53) (n := 16) (r := 42) dX11_post_50 fl_11_23 s0h (by decide) r3 rfl ?_
    refine pa_getI (pc' := 56) (n := 15) dX11_post_53 fl_11_109 sch (by decide) k4 rfl ?_
    refine pa_callv (pc' := 59) (vs := [.inl (nI (cI A))]) (rest := []) dX11_post_56 ml_11_112 (by decide) rfl rfl rfl (fun d' _ => c_gra s0h) (fun v g3 hq => ?_)
    obtain ⟨ev, eg⟩ := hq
    subst ev; subst eg
    exact pa_iret dX11_post_59 rfl rfl ⟨rfl, rcC.frM (by unfold cc2; decide) hI (fun a k h1 h2 => (zsI_no (by omega)).trans (fr a k h1 h2)) hC, hI, r3, (zsI_no (by omega)).trans ((hf4.2.2.1 82 11 (by decide)).trans z11), zsI_eq, (zsI_no (by omega)).trans z15, sText_cI _ _ _ er⟩
theorem N_post11_1 (ho : hOK wd h) (e1 : h.1 = hh_487.1) (hr : lV h rv1) (ht : h.2.1 0 1 = nI s) (hs : s ≤ 1000) (hn : n ≤ s) (hd : 6 ≤ d + 1) : zPa (d + 1) mX11_post [.inr (.inr (some 0)), .inl (nI n)] h (pcR 2 42 h (sText (h.2.1 1) n (n + 1) pA0 0)) := by
  intro N
  have s0 : zsh h 0 = some (11, 16) := ho.1 0 (11, 16) (by decide +kernel)
  have k0 : (0 : Int32).toInt = 0 := by decide
  show zPn N none (d + 1) mX11_post (0, [(0, .inr (.inr (some 0))), (1, .inl (nI n))], [], h) _
  refine pa_iload_n (pc' := 1) dX11_post_0 rfl rfl ?_
  refine pa_if (pc' := 12) (pc2 := 4) dX11_post_1 (by decide) rfl (fun c => ?_) (fun c => ?_)
  · have := zi_lt c
    rw [nI_toInt (by omega), k0] at this
    omega
  refine pa_iload_n (pc' := 5) dX11_post_4 rfl rfl ?_
  refine pa_aload_n (pc' := 6) dX11_post_5 rfl rfl ?_
  refine pa_getI (pc' := 9) (n := 16) (v := nI s) dX11_post_6 fl_11_13 s0 (by decide) ht rfl ?_
  refine pa_icmp (pc' := 18) (pc2 := 12) dX11_post_9 (by decide) rfl (fun c2 => ?_) (fun c2 => ?_)
  rotate_left
  · have := zi_gt (zk_le_gt c2)
    rw [nI_toInt (by omega), nI_toInt (by omega)] at this
    omega
  refine pa_aload_n (pc' := 19) dX11_post_18 rfl rfl ?_
  refine pa_iconst (v := 0) (pc' := 20) dX11_post_19 (by decide) rfl ?_
  refine pa_putI (pc' := 23) (n := 16) dX11_post_20 fl_11_13 s0 (Or.inl rfl) (Or.inl rfl) rfl ?_
  have ho2 : hOK wd (zsI h 0 1 0) := hOK_set (aLe_in (A := [(0, 0, 1)]) (by decide +kernel) (aR1_in (lo := 0) (hi := 0) (by decide) (by decide))) (by decide +kernel) ho
  have r5 : (zsI h 0 1 0).2.2.2.1 0 5 = some 82 := ho2.2.2.1 0 5 82 (by decide +kernel)
  have r4 : (zsI h 0 1 0).2.2.2.1 0 4 = some 2 := hr ((0, 4), 2) (by decide)
  have hy : (zsI h 0 1 0).2.1 1 = h.2.1 1 := funext (fun k => zsI_no (by omega))
  refine pa_aload_n (pc' := 24) dX11_post_23 rfl rfl ?_
  refine pa_getR (pc' := 27) (n := 16) (r := 82) dX11_post_24 fl_11_35 s0 (by decide) r5 rfl ?_
  refine pa_iload_n (pc' := 28) dX11_post_27 rfl rfl ?_
  refine pa_aload_n (pc' := 29) dX11_post_28 rfl rfl ?_
  refine pa_getR (pc' := 32) (n := 16) (r := 2) dX11_post_29 fl_11_27 s0 (by decide) r4 rfl ?_
  refine pa_callv (pc' := 35) (vs := [.inl (nI n), .inr (.inr (some 2))]) (rest := []) dX11_post_32 ml_11_102 (by decide) rfl rfl rfl (fun d' hd' => zPa.two (zPa.of (S_473 d' (by show 5 ≤ d'; omega) [.inr (.inr (some 82)), .inl (nI n), .inr (.inr (some 2))] (zsI h 0 1 0) ⟨⟨82, List.mem_cons_self, rfl⟩, ⟨_, rfl, aR1_in (lo := 0) (hi := 1000) (by rw [nI_toInt (by omega)]; omega) (by rw [nI_toInt (by omega)]; omega)⟩, ⟨2, List.mem_cons_self, rfl⟩, trivial⟩ ho2 ⟨fun q hq => (nomatch hq), fun q hq => (nomatch hq)⟩)) (by
    obtain ⟨e, rfl⟩ : ∃ e, d' = e + 1 := ⟨d' - 1, by omega⟩
    exact C_text (y := h.2.1 1) (c := 2) (by unfold cc2; decide) e1 ho2.2.2.1 hy (by omega))) (fun v g hq => ?_)
  obtain ⟨⟨ho3, hf3, p3, hp3, hret3, -, hpre3, -⟩, hq⟩ := hq
  have s0g : zsh g 0 = some (11, 16) := ho3.1 0 (11, 16) (by decide +kernel)
  have hrg : lV g rv1 := fun q hq => (hf3.2.2.2.1 q.1.1 q.1.2 (by
    have : ∀ q ∈ rv1, inM [(82, 6, 7)] q.1.1 q.1.2 = false := by decide
    exact this q hq)).trans (hr q hq)
  cases er : sText (h.2.1 1) n (n + 1) pA0 0 with
  | inl e =>
    rw [er] at hq
    obtain ⟨ev, hf⟩ := hq
    subst ev
    show zPn N none (d + 1) mX11_post (35, [(0, .inr (.inr (some 0))), (1, .inl (nI n))], [.inl 0], g) _
    refine pa_if_f (x := 0) (pc' := 38) dX11_post_35 (by decide) (by decide) rfl ?_
    refine pa_aload_n (pc' := 39) dX11_post_38 rfl rfl ?_
    refine pa_iconst (v := 4) (pc' := 40) dX11_post_39 (by decide) rfl ?_
    refine pa_callv (pc' := 43) (vs := [.inl 4]) (rest := []) dX11_post_40 ml_11_98 (by decide) rfl rfl rfl (fun d' _ => c_ref s0g) (fun v g2 hq => ?_)
    obtain ⟨ev, eg⟩ := hq
    subst ev; subst eg
    exact pa_iret dX11_post_43 rfl rfl ⟨rfl, ⟨by rw [zsI_no (by omega)]; exact hf.1, by rw [zsI_no (by omega)]; exact hf.2⟩, zsI_eq, fun a k h1 h2 => ((zsI_no (by omega)).trans (hf3.2.2.1 a k (inM_by (fun x => Nat.ble (x + 1) 42 || Nat.ble (42 + 40) x) (by decide +kernel) (pB_f h1 h2)))).trans (zsI_no (by omega)), hf3.2.2.2.1 0 3 rfl, ((zsI_no (by omega)).trans (hf3.2.2.1 0 15 (by decide))).trans (zsI_no (by omega))⟩
  | inr A =>
    rw [er] at hq
    obtain ⟨ev, hC, hI⟩ := hq
    subst ev
    show zPn N none (d + 1) mX11_post (35, [(0, .inr (.inr (some 0))), (1, .inl (nI n))], [.inl 1], g) _
    refine pa_if_t (x := 1) (pc' := 44) dX11_post_35 (by decide) (by decide) ?_
    refine pa_aload_n (pc' := 45) dX11_post_44 rfl rfl ?_
    refine pa_callv (pc' := 48) (vs := []) (rest := []) dX11_post_45 ml_11_106 (by decide) rfl rfl rfl (fun d' hd' => zPa.of (S_475 d' (by show 1 ≤ d'; omega) [.inr (.inr (some 0))] g ⟨⟨0, List.mem_cons_self, rfl⟩, trivial⟩ ho3 ⟨fun q hq => (nomatch hq), hrg⟩)) (fun v g2 hq => ?_)
    obtain ⟨ho4, hf4, p, hp, hret, -, hpre, hpr⟩ := hq
    have hall : ct_475.2.2.2.1.all (fun p => decide (p.1 = none) && p.2.2.2.any (fun q => decide (q = ((0, 3), 2)))) = true := by decide +kernel
    have hb := List.all_eq_true.mp hall p hp
    rw [Bool.and_eq_true] at hb
    have ev : v = none := by
      rw [of_decide_eq_true hb.1] at hret
      exact hret
    have z15 : g2.2.1 0 15 = 0 := e0s_in (c := ct_475) (by decide +kernel) hp hret (fun x e => by rw [ev] at e; cases e) hpre
    have z11 : g.2.1 82 11 = 0 := e0s_in (c := ct_473) (by decide +kernel) hp3 hret3 (fun x e => by cases e; decide) hpre3
    subst ev
    have fr : ∀ a k, 2 ≤ a → a < 82 → g2.2.1 a k = g.2.1 a k := fun a k h1 h2 => hf4.2.2.1 a k (inM_mid (by decide) h1 h2)
    have s0h : zsh g2 0 = some (11, 16) := ho4.1 0 (11, 16) (by decide +kernel)
    have sch : zsh g2 2 = some (4, 15) := ho4.1 2 (4, 15) (by decide +kernel)
    have r3 : g2.2.2.2.1 0 3 = some 2 := by
      obtain ⟨q, hq, e⟩ := List.any_eq_true.mp hb.2
      have e := of_decide_eq_true e
      subst e
      exact hpr _ hq
    have k4 : g2.2.1 2 4 = nI (cI A) := (fr _ _ (by decide) (by decide)).trans hC.2.1
    show zPn N none (d + 1) mX11_post (48, [(0, .inr (.inr (some 0))), (1, .inl (nI n))], [], g2) _
    refine pa_aload_n (pc' := 49) dX11_post_48 rfl rfl ?_
    refine pa_aload_n (pc' := 50) dX11_post_49 rfl rfl ?_
    refine pa_getR (pc' := 53) (n := 16) (r := 2) dX11_post_50 fl_11_23 s0h (by decide) r3 rfl ?_
    refine pa_getI (pc' := 56) (n := 15) dX11_post_53 fl_11_109 sch (by decide) k4 rfl ?_
    refine pa_callv (pc' := 59) (vs := [.inl (nI (cI A))]) (rest := []) dX11_post_56 ml_11_112 (by decide) rfl rfl rfl (fun d' _ => c_gra s0h) (fun v g3 hq => ?_)
    obtain ⟨ev, eg⟩ := hq
    subst ev; subst eg
    exact pa_iret dX11_post_59 rfl rfl ⟨rfl, rcC.frM (by unfold cc2; decide) hI (fun a k h1 h2 => (zsI_no (by omega)).trans (fr a k h1 h2)) hC, hI, r3, (zsI_no (by omega)).trans ((hf4.2.2.1 82 11 (by decide)).trans z11), zsI_eq, (zsI_no (by omega)).trans z15, sText_cI _ _ _ er⟩
end PCL
