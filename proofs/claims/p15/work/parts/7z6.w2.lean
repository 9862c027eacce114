/-! the class: one way gone -/
/-- an array of days: NEVER for none -/
def gA (nv a : Nat) (X : gX) (h : zH) : Prop := ∀ i, i < 7 → h.2.1 a i = match X i with | some x => nI x | none => nI nv
/-- what is left alone: all but one cell -/
def gF (a : Nat) (h g : zH) : Prop := g.1 = h.1 ∧ g.2.2 = h.2.2 ∧ ∀ b k, b ≠ a → g.2.1 b k = h.2.1 b k
def gM (X : gX) (B : Nat) : Prop := ∀ i x, X i = some x → x ≤ B
/-- when one is there -/
def gLv (kd : Int32) (op : Int32) (x : Nat) : Nat := if kd = 3 then x else lvS (opB op) x
def gDy (kd : Int32) (dy : Nat) : Nat := if kd = 2 then 2 * dy else dy
def gT (kd : Int32) (op : Nat → Int32) (dy : Nat → Nat) (k x : Nat) : Nat := gLv kd (op k) x + gDy kd (dy k)
def gD (W : Nat) (a b : Nat → Nat) (ok : Nat → Bool) (kd : Int32) (op : Nat → Int32) (dy : Nat → Nat) : gW := (W, a, b, ok, gT kd op dy)
/-- the ways as the class holds them -/
def seC (c W : Nat) (a b dy : Nat → Nat) (op : Nat → Int32) (h : zH) : Prop := h.1 = hh_487.1 ∧ cc2 c ∧ W ≤ 12 ∧ (h.2.2.2.1 94 0 = some c ∧ h.2.2.2.1 94 1 = some 86 ∧ h.2.2.2.1 94 3 = some 95 ∧ h.2.2.2.1 c 11 = some (c + 3) ∧ ∀ k, k < 12 → h.2.2.2.1 (c + 3) k = some (c + 7 + k)) ∧ h.2.1 c 5 = nI W ∧ ∀ k, k < W → h.2.1 (c + 7 + k) 0 = nI (a k) ∧ h.2.1 (c + 7 + k) 1 = nI (b k) ∧ h.2.1 (c + 7 + k) 2 = nI (dy k) ∧ h.2.1 (c + 7 + k) 3 = op k ∧ a k < 7 ∧ b k < 7 ∧ dy k ≤ 99
section GOE
variable {d N c W B k i j : Nat} {h g : zH} {a b dy : Nat → Nat} {op : Nat → Int32} {ok : Nat → Bool} {kd : Int32} {X : gX}
theorem gF.rf : gF B h h := ⟨rfl, rfl, fun _ _ _ => rfl⟩
theorem gF.tr {g2 : zH} (p : gF B h g) (q : gF B g g2) : gF B h g2 := ⟨q.1.trans p.1, q.2.1.trans p.2.1, fun b k e => (q.2.2 b k e).trans (p.2.2 b k e)⟩
theorem gF.st {v : Int32} : gF B h (zsI h B k v) := ⟨rfl, rfl, fun b j e => zsI_no (fun z => e z.1)⟩
theorem gA.up {nv q x : Nat} (hA : gA nv q X h) : gA nv q (upA X j (some x)) (zsI h q j (nI x)) := fun i hi => by
  rw [zsI_at, upA_at]
  by_cases z : i = j
  · rw [if_pos ⟨rfl, z⟩, if_pos z]
  · rw [if_neg (fun w => z w.2), if_neg z]
    exact hA i hi
theorem gA.some {nv q x : Nat} (hA : gA nv q X h) (hi : i < 7) (e : X i = some x) : h.2.1 q i = nI x := by
  have := hA i hi
  rw [e] at this
  exact this
theorem gA.none {nv q : Nat} (hA : gA nv q X h) (hi : i < 7) (e : X i = none) : h.2.1 q i = nI nv := by
  have := hA i hi
  rw [e] at this
  exact this
theorem seC.fr (K : seC c W a b dy op h) (f : gF 95 h g) : seC c W a b dy op g := by
  obtain ⟨k1, k2, k3, k4, k5, k6⟩ := K
  have hc : c = 2 ∨ c = 42 := k2
  refine ⟨f.1.trans k1, k2, k3, by rw [f.2.1]; exact k4, (f.2.2 _ _ (by omega)).trans k5, fun k hk => ?_⟩
  rw [f.2.2 _ _ (by omega), f.2.2 _ _ (by omega), f.2.2 _ _ (by omega), f.2.2 _ _ (by omega)]
  exact k6 k hk
theorem seC.wy (K : seC c W a b dy op h) (hk : k < 12) : zsh h (c + 7 + k) = some (9, 4) := by
  have hc : c = 2 ∨ c = 42 := K.2.1
  have e : ∀ k, k < 12 → zsh hh_487 (2 + 7 + k) = some (9, 4) ∧ zsh hh_487 (42 + 7 + k) = some (9, 4) := by decide +kernel
  rcases hc with z | z <;> subst z
  · exact zsh_by K.1 (e k hk).1
  · exact zsh_by K.1 (e k hk).2
theorem gT_eq {x : Nat} : (gD W a b ok kd op dy).2.2.2.2 k x = gLv kd (op k) x + gDy kd (dy k) := rfl
theorem gLv_hi {x : Nat} {o : Int32} : gLv kd o x ≤ x + 270 := by
  unfold gLv
  split
  · omega
  · rcases lvS_hi (b := opB o) (d := x) with z | z <;> omega
theorem gDy_hi {y : Nat} : gDy kd y ≤ 2 * y := by
  unfold gDy
  split <;> omega
theorem gT_hi {x : Nat} (hd : dy k ≤ 99) : (gD W a b ok kd op dy).2.2.2.2 k x ≤ x + 468 := by
  have h1 := gLv_hi (kd := kd) (o := op k) (x := x)
  have h2 := gDy_hi (kd := kd) (y := dy k)
  rw [gT_eq]
  omega
theorem gGo_M {G : gW} (hB : gM X B) (hT : ∀ x, G.2.2.2.2 k x ≤ x + 468) : gM (gGo G k i j X) (B + 468) := by
  have up : ∀ x, x ≤ B → gM (upA X j (some (G.2.2.2.2 k x))) (B + 468) := fun x hx q y e => by
    rw [upA_at] at e
    have := hT x
    by_cases z : q = j
    · rw [if_pos z] at e
      cases e
      omega
    · rw [if_neg z] at e
      have := hB q y e
      omega
  have old : gM X (B + 468) := fun q y e => Nat.le_trans (hB q y e) (by omega)
  unfold gGo
  split
  · exact old
  · next x hx =>
    have := hB i x hx
    split
    · exact up x this
    · split
      · exact up x this
      · exact old
theorem N_leaveA {x : Nat} {o : Int32} (hx : x ≤ 1000000) {r : Option Nat} : zPa d mX6_dayOfLeaving [.inr (.inr r), .inl kd, .inl o, .inl (nI x)] h (fun v h' => v = some (.inl (nI (gLv kd o x))) ∧ h' = h) := by
  unfold gLv
  by_cases z : kd = 3
  · rw [if_pos z]
    intro N
    show zPn N none d mX6_dayOfLeaving (0, [(0, .inr (.inr r)), (1, .inl kd), (2, .inl o), (3, .inl (nI x))], [], h) _
    refine pa_iload_n (pc' := 1) dX6_dayOfLeaving_0 rfl rfl ?_
    refine pa_iconst (v := 3) (pc' := 2) dX6_dayOfLeaving_1 (by decide) rfl ?_
    refine pa_icmp_f (pc' := 5) dX6_dayOfLeaving_2 (decide_eq_false (not_not_intro z)) (by decide) rfl ?_
    refine pa_iload_n (pc' := 6) dX6_dayOfLeaving_5 rfl rfl ?_
    refine pa_iret dX6_dayOfLeaving_6 rfl rfl ?_
    exact ⟨rfl, rfl⟩
  · rw [if_neg z]
    exact N_leave z hx
/-- what came of it -/
def goR (G : gW) (k i j : Nat) (X : gX) (h : zH) (v : Option zV) (g : zH) : Prop := gF 95 h g ∧ gA 1000000000 95 (gGo G k i j X) g ∧ ((v = some (.inl 0) ∧ gGo G k i j X = X) ∨ (v = some (.inl 1) ∧ ∃ x, X i = some x ∧ gGo G k i j X = upA X j (some (G.2.2.2.2 k x))))
theorem N_goes (K : seC c W a b dy op h) (hk : k < W) (hi : i < 7) (hj : j < 7) (hX : gA 1000000000 95 X h) (hB : gM X B) (hB2 : B ≤ 900000) : zPa d mX6_goes [.inr (.inr (some 94)), .inl kd, .inr (.inr (some (c + 7 + k))), .inl (nI i), .inl (nI j)] h (goR (gD W a b ok kd op dy) k i j X h) := by
  intro N
  have s94 : zsh h 94 = some (6, 7) := zsh_by K.1 (by decide +kernel)
  have s95 : zsh h 95 = some (14, 7) := zsh_by K.1 (by decide +kernel)
  have hW := K.2.2.1
  have sw := K.wy (k := k) (by omega)
  obtain ⟨r0, r1, r3, -⟩ := K.2.2.2.1
  obtain ⟨-, -, e2, e3, -, -, hd⟩ := K.2.2.2.2.2 k hk
  show zPn N none d mX6_goes (0, [(0, .inr (.inr (some 94))), (1, .inl kd), (2, .inr (.inr (some (c + 7 + k)))), (3, .inl (nI i)), (4, .inl (nI j))], [], h) _
  cases ex : X i with
  | none =>
    have ei := hX.none hi ex
    have eg : gGo (gD W a b ok kd op dy) k i j X = X := by unfold gGo; rw [ex]
    refine pa_aload_n (pc' := 1) dX6_goes_0 rfl rfl ?_
    refine pa_getR (pc' := 4) (n := 7) (r := 95) dX6_goes_1 fl_6_9 s94 (by decide) r3 rfl ?_
    refine pa_iload_n (pc' := 5) dX6_goes_4 rfl rfl ?_
    refine pa_iald (pc' := 6) dX6_goes_5 s95 rfl (fun _ => ?_)
    rw [nI_clamp (by omega), ei]
    refine pa_ldc (pc' := 8) dX6_goes_6 cl_6_37 rfl rfl ?_
    refine pa_icmp_f (pc' := 11) dX6_goes_8 (by decide +kernel) (by decide) rfl ?_
    refine pa_iconst (v := 0) (pc' := 12) dX6_goes_11 (by decide) rfl ?_
    refine pa_iret dX6_goes_12 rfl rfl ?_
    exact ⟨gF.rf, by rw [eg]; exact hX, .inl ⟨rfl, eg⟩⟩
  | some x =>
    have ei := hX.some hi ex
    have hx := hB i x ex
    refine pa_aload_n (pc' := 1) dX6_goes_0 rfl rfl ?_
    refine pa_getR (pc' := 4) (n := 7) (r := 95) dX6_goes_1 fl_6_9 s94 (by decide) r3 rfl ?_
    refine pa_iload_n (pc' := 5) dX6_goes_4 rfl rfl ?_
    refine pa_iald (pc' := 6) dX6_goes_5 s95 rfl (fun _ => ?_)
    rw [nI_clamp (by omega), ei]
    refine pa_ldc (pc' := 8) dX6_goes_6 cl_6_37 rfl rfl ?_
    refine pa_icmp_t (pc' := 13) dX6_goes_8 (zj_ne (by rw [nI_toInt (by omega), show (1000000000 : Int32).toInt = 1000000000 by decide +kernel]; omega)) (by decide) ?_
    have rest : zPn N none d mX6_goes (31, [(0, .inr (.inr (some 94))), (1, .inl kd), (2, .inr (.inr (some (c + 7 + k)))), (3, .inl (nI i)), (4, .inl (nI j))], [.inl (nI (gDy kd (dy k)))], h) (goR (gD W a b ok kd op dy) k i j X h) := by
      refine pa_istore (pc' := 33) dX6_goes_31 (by decide) rfl rfl ?_
      refine pa_aload_n (pc' := 34) dX6_goes_33 rfl rfl ?_
      refine pa_iload_n (pc' := 35) dX6_goes_34 rfl rfl ?_
      refine pa_aload_n (pc' := 36) dX6_goes_35 rfl rfl ?_
      refine pa_getI (pc' := 39) (n := 4) (v := op k) dX6_goes_36 fl_6_77 sw (by decide) e3 rfl ?_
      refine pa_aload_n (pc' := 40) dX6_goes_39 rfl rfl ?_
      refine pa_getR (pc' := 43) (n := 7) (r := 95) dX6_goes_40 fl_6_9 s94 (by decide) r3 rfl ?_
      refine pa_iload_n (pc' := 44) dX6_goes_43 rfl rfl ?_
      refine pa_iald (pc' := 45) dX6_goes_44 s95 rfl (fun _ => ?_)
      rw [nI_clamp (by omega), ei]
      refine pa_callv (pc' := 48) (vs := [.inl kd, .inl (op k), .inl (nI x)]) (rest := []) dX6_goes_45 ml_6_80 (by decide) rfl rfl rfl (fun d' _ => N_leaveA (by omega)) (fun v g9 hq => ?_)
      obtain ⟨ev, eh⟩ := hq
      subst ev
      rw [eh]
      show zPn N none d mX6_goes (48, _, [.inl (nI (gLv kd (op k) x))], h) _
      refine pa_iload (pc' := 50) dX6_goes_48 rfl rfl ?_
      refine pa_iadd (pc' := 51) (v := nI (gLv kd (op k) x + gDy kd (dy k))) dX6_goes_50 (nI_add _ _) rfl ?_
      refine pa_istore (pc' := 53) dX6_goes_51 (by decide) rfl rfl ?_
      have hT := gT_hi (W := W) (a := a) (b := b) (ok := ok) (kd := kd) (op := op) (x := x) hd
      rw [gT_eq] at hT
      have go : gGo (gD W a b ok kd op dy) k i j X = upA X j (some (gLv kd (op k) x + gDy kd (dy k))) → goR (gD W a b ok kd op dy) k i j X h (some (.inl 1)) (zsI h 95 j (nI (gLv kd (op k) x + gDy kd (dy k)))) := fun e => ⟨gF.st, by rw [e]; exact hX.up, .inr ⟨rfl, x, ex, e⟩⟩
      cases ej : X j with
      | none =>
        have ejj := hX.none hj ej
        have e : gGo (gD W a b ok kd op dy) k i j X = upA X j (some (gLv kd (op k) x + gDy kd (dy k))) := by
          unfold gGo
          rw [ex, ej]
          rfl
        refine pa_iload (pc' := 55) dX6_goes_53 rfl rfl ?_
        refine pa_aload_n (pc' := 56) dX6_goes_55 rfl rfl ?_
        refine pa_getR (pc' := 59) (n := 7) (r := 95) dX6_goes_56 fl_6_9 s94 (by decide) r3 rfl ?_
        refine pa_iload (pc' := 61) dX6_goes_59 rfl rfl ?_
        refine pa_iald (pc' := 62) dX6_goes_61 s95 rfl (fun _ => ?_)
        rw [nI_clamp (by omega), ejj]
        refine pa_icmp_t (pc' := 67) dX6_goes_62 (zj_lt (by rw [nI_toInt (by omega), nI_toInt (by omega)]; omega)) (by decide) ?_
        refine pa_aload_n (pc' := 68) dX6_goes_67 rfl rfl ?_
        refine pa_getR (pc' := 71) (n := 7) (r := 95) dX6_goes_68 fl_6_9 s94 (by decide) r3 rfl ?_
        refine pa_iload (pc' := 73) dX6_goes_71 rfl rfl ?_
        refine pa_iload (pc' := 75) dX6_goes_73 rfl rfl ?_
        refine pa_iast (pc' := 76) dX6_goes_75 s95 rfl (fun _ => ?_)
        rw [nI_clamp (by omega)]
        refine pa_iconst (v := 1) (pc' := 77) dX6_goes_76 (by decide) rfl ?_
        refine pa_iret dX6_goes_77 rfl rfl ?_
        exact go e
      | some y =>
        have ejj := hX.some hj ej
        have hy := hB j y ej
        refine pa_iload (pc' := 55) dX6_goes_53 rfl rfl ?_
        refine pa_aload_n (pc' := 56) dX6_goes_55 rfl rfl ?_
        refine pa_getR (pc' := 59) (n := 7) (r := 95) dX6_goes_56 fl_6_9 s94 (by decide) r3 rfl ?_
        refine pa_iload (pc' := 61) dX6_goes_59 rfl rfl ?_
        refine pa_iald (pc' := 62) dX6_goes_61 s95 rfl (fun _ => ?_)
        rw [nI_clamp (by omega), ejj]
        by_cases z : gLv kd (op k) x + gDy kd (dy k) < y
        · have e : gGo (gD W a b ok kd op dy) k i j X = upA X j (some (gLv kd (op k) x + gDy kd (dy k))) := by
            unfold gGo
            rw [ex, ej]
            dsimp only
            rw [gT_eq, if_pos z]
          refine pa_icmp_t (pc' := 67) dX6_goes_62 (zj_lt (by rw [nI_toInt (by omega), nI_toInt (by omega)]; omega)) (by decide) ?_
          refine pa_aload_n (pc' := 68) dX6_goes_67 rfl rfl ?_
          refine pa_getR (pc' := 71) (n := 7) (r := 95) dX6_goes_68 fl_6_9 s94 (by decide) r3 rfl ?_
          refine pa_iload (pc' := 73) dX6_goes_71 rfl rfl ?_
          refine pa_iload (pc' := 75) dX6_goes_73 rfl rfl ?_
          refine pa_iast (pc' := 76) dX6_goes_75 s95 rfl (fun _ => ?_)
          rw [nI_clamp (by omega)]
          refine pa_iconst (v := 1) (pc' := 77) dX6_goes_76 (by decide) rfl ?_
          refine pa_iret dX6_goes_77 rfl rfl ?_
          exact go e
        · have e : gGo (gD W a b ok kd op dy) k i j X = X := by
            unfold gGo
            rw [ex, ej]
            dsimp only
            rw [gT_eq, if_neg z]
          refine pa_icmp_f (pc' := 65) dX6_goes_62 (zj_nlt (by rw [nI_toInt (by omega), nI_toInt (by omega)]; omega)) (by decide) rfl ?_
          refine pa_iconst (v := 0) (pc' := 66) dX6_goes_65 (by decide) rfl ?_
          refine pa_iret dX6_goes_66 rfl rfl ?_
          exact ⟨gF.rf, by rw [e]; exact hX, .inl ⟨rfl, e⟩⟩
    refine pa_iload_n (pc' := 14) dX6_goes_13 rfl rfl ?_
    refine pa_iconst (v := 2) (pc' := 15) dX6_goes_14 (by decide) rfl ?_
    by_cases z : kd = 2
    · refine pa_icmp_f (pc' := 18) dX6_goes_15 (decide_eq_false (not_not_intro z)) (by decide) rfl ?_
      refine pa_iconst (v := nI 2) (pc' := 19) dX6_goes_18 (by decide) rfl ?_
      refine pa_aload_n (pc' := 20) dX6_goes_19 rfl rfl ?_
      refine pa_getI (pc' := 23) (n := 4) (v := nI (dy k)) dX6_goes_20 fl_6_74 sw (by decide) e2 rfl ?_
      refine pa_imul (pc' := 24) (v := nI (2 * (dy k))) dX6_goes_23 (nI_mul _ _) rfl ?_
      refine pa_goto (pc' := 31) dX6_goes_24 (by decide) ?_
      have e : gDy kd (dy k) = 2 * dy k := by unfold gDy; rw [if_pos z]
      rw [e] at rest
      exact rest
    · refine pa_icmp_t (pc' := 27) dX6_goes_15 (decide_eq_true z) (by decide) ?_
      refine pa_aload_n (pc' := 28) dX6_goes_27 rfl rfl ?_
      refine pa_getI (pc' := 31) (n := 4) (v := nI (dy k)) dX6_goes_28 fl_6_74 sw (by decide) e2 rfl ?_
      have e : gDy kd (dy k) = dy k := by unfold gDy; rw [if_neg z]
      rw [e] at rest
      exact rest
end GOE
/-! the class: all first days -/
def clB (cl : Int32) (k : Nat) : Bool := decide (¬ (cl >>> (nI k &&& 31)) &&& 1 = 0)
def okW (cl kd : Int32) (a b : Nat → Nat) (fm k : Nat) : Bool := !(clB cl k) && (decide (kd ≠ 0) || (decide (a k = fm) || decide (b k = fm)))
section FFD
variable {d c W B k i j n fm x0 : Nat} {h g : zH} {a b dy : Nat → Nat} {op : Nat → Int32} {ok : Nat → Bool} {kd cl : Int32} {X : gX} {G : gW}
theorem N_fill {v : Int32} (h1 : h.1 = hh_487.1) : zPa d mJ7_fill_53178 [.inr (.inr (some 95)), .inl v] h (fun r g => r = none ∧ gF 95 h g ∧ ∀ i, i < 7 → g.2.1 95 i = v) := by
  intro N
  have lp : ∀ (N i : Nat) (ls : zL) (g : zH), i ≤ 7 → gF 95 h g → (∀ j, j < i → g.2.1 95 j = v) → zget ls 0 = some (.inr (.inr (some 95))) → zget ls 1 = some (.inl v) → zget ls 2 = some (.inl (nI i)) → zget ls 3 = some (.inl (nI 7)) → zPn N none d mJ7_fill_53178 (5, ls, [], g) (fun r g => r = none ∧ gF 95 h g ∧ ∀ i, i < 7 → g.2.1 95 i = v) := by
    intro N
    induction N with
    | zero => intros; exact zPn.zero
    | succ N ih =>
      intro i ls g hi hf hv hl0 hl1 hl2 hl3
      have s95 : zsh g 95 = some (14, 7) := zsh_by (hf.1.trans h1) (by decide +kernel)
      refine pa_iload_n (pc' := 6) dJ7_fill_53178_5 hl2 rfl ?_
      refine pa_iload_n (pc' := 7) dJ7_fill_53178_6 hl3 rfl ?_
      refine pa_icmp (pc' := 20) (pc2 := 10) dJ7_fill_53178_7 (by decide) rfl (fun w => ?_) (fun w => ?_)
      · have w := zi_nlt (zk_ge_lt w)
        rw [nI_toInt (by omega), nI_toInt (by omega)] at w
        refine pa_vret dJ7_fill_53178_20 rfl ?_
        exact ⟨rfl, hf, fun j hj => hv j (by omega)⟩
      · have w := zi_lt (zk_ge_lt w)
        rw [nI_toInt (by omega), nI_toInt (by omega)] at w
        refine pa_aload_n (pc' := 11) dJ7_fill_53178_10 hl0 rfl ?_
        refine pa_iload_n (pc' := 12) dJ7_fill_53178_11 hl2 rfl ?_
        refine pa_iload_n (pc' := 13) dJ7_fill_53178_12 hl1 rfl ?_
        refine pa_iast (pc' := 14) dJ7_fill_53178_13 s95 rfl (fun _ => ?_)
        rw [nI_clamp (by omega)]
        refine pa_iinc (pc' := 17) (v := nI (i + 1)) dJ7_fill_53178_14 hl2 (by decide) (nI_add i 1) rfl rfl ?_
        refine pa_gotos (pc' := 5) dJ7_fill_53178_17 (by decide) ?_
        refine ih (i + 1) _ _ (by omega) (hf.tr gF.st) (fun j hj => ?_) (zget_s1 hl0 (by decide) (by simp [zcat])) (zget_s1 hl1 (by decide) (by simp [zcat])) zget_s1e (zget_s1 hl3 (by decide) (by simp [zcat]))
        rw [zsI_at]
        by_cases z : j = i
        · rw [if_pos ⟨rfl, z⟩]
        · rw [if_neg (fun q => z q.2)]
          exact hv j (by omega)
  have s95 : zsh h 95 = some (14, 7) := zsh_by h1 (by decide +kernel)
  show zPn N none d mJ7_fill_53178 (0, [(0, .inr (.inr (some 95))), (1, .inl v)], [], h) _
  refine pa_iconst (v := nI 0) (pc' := 1) dJ7_fill_53178_0 (by decide) rfl ?_
  refine pa_istore_n (pc' := 2) dJ7_fill_53178_1 (by decide) rfl rfl ?_
  refine pa_aload_n (pc' := 3) dJ7_fill_53178_2 rfl rfl ?_
  refine pa_alen (pc' := 4) (v := nI 7) dJ7_fill_53178_3 s95 (by decide) (by decide) rfl ?_
  refine pa_istore_n (pc' := 5) dJ7_fill_53178_4 (by decide) rfl rfl ?_
  exact lp N 0 _ h (Nat.zero_le _) gF.rf (fun j hj => absurd hj (Nat.not_lt_zero j)) rfl rfl rfl rfl
theorem N_isClosed (h1 : h.1 = hh_487.1) (hcl : h.2.1 86 1 = cl) : zPa d mX2_isClosed [.inr (.inr (some 86)), .inl (nI k)] h (fun v g => v = some (.inl (if clB cl k = true then 1 else 0)) ∧ g = h) := by
  intro N
  have s86 : zsh h 86 = some (2, 7) := zsh_by h1 (by decide +kernel)
  show zPn N none d mX2_isClosed (0, [(0, .inr (.inr (some 86))), (1, .inl (nI k))], [], h) _
  refine pa_aload_n (pc' := 1) dX2_isClosed_0 rfl rfl ?_
  refine pa_getI (pc' := 4) (n := 7) (v := cl) dX2_isClosed_1 fl_2_15 s86 (by decide) hcl rfl ?_
  refine pa_iload_n (pc' := 5) dX2_isClosed_4 rfl rfl ?_
  refine pa_ishr (pc' := 6) dX2_isClosed_5 rfl rfl ?_
  refine pa_iconst (v := 1) (pc' := 7) dX2_isClosed_6 (by decide) rfl ?_
  refine pa_iand (pc' := 8) dX2_isClosed_7 rfl rfl ?_
  by_cases z : clB cl k = true
  · rw [if_pos z]
    refine pa_if_f (pc' := 11) dX2_isClosed_8 (decide_eq_false (of_decide_eq_true z)) (by decide) rfl ?_
    refine pa_iconst (v := 1) (pc' := 12) dX2_isClosed_11 (by decide) rfl ?_
    refine pa_goto (pc' := 16) dX2_isClosed_12 (by decide) ?_
    refine pa_iret dX2_isClosed_16 rfl rfl ?_
    exact ⟨rfl, rfl⟩
  · rw [if_neg z]
    refine pa_if_t (pc' := 15) dX2_isClosed_8 (decide_eq_true (Decidable.not_not.mp (fun q => z (decide_eq_true q)))) (by decide) ?_
    refine pa_iconst (v := 0) (pc' := 16) dX2_isClosed_15 (by decide) rfl ?_
    refine pa_iret dX2_isClosed_16 rfl rfl ?_
    exact ⟨rfl, rfl⟩
theorem gGo_back {x : Nat} (hG : gR G) (hi : X i = some x) (e : gGo G k i j X = upA X j (some (G.2.2.2.2 k x))) : gGo G k j i (gGo G k i j X) = gGo G k i j X := by
  rw [e]
  have l1 := hG.2 k x
  have l2 := hG.2 k (G.2.2.2.2 k x)
  have ej : upA X j (some (G.2.2.2.2 k x)) j = some (G.2.2.2.2 k x) := by rw [upA_at, if_pos rfl]
  show gGo G k j i (upA X j (some (G.2.2.2.2 k x))) = _
  unfold gGo
  rw [ej]
  dsimp only
  by_cases z : i = j
  · rw [z, ej]
    dsimp only
    rw [if_neg (by omega)]
  · have ei : upA X j (some (G.2.2.2.2 k x)) i = some x := by rw [upA_at, if_neg z]; exact hi
    rw [ei]
    dsimp only
    rw [if_neg (by omega)]
theorem gB_M : gM (gB fm x0) x0 := fun i x e => by
  unfold gB at e
  rw [upA_at] at e
  by_cases z : i = fm
  · rw [if_pos z] at e
    cases e
    exact Nat.le_refl _
  · rw [if_neg z] at e
    cases e
theorem gSt_M (hB : gM X B) (hT : ∀ x, G.2.2.2.2 k x ≤ x + 468) : gM (gSt G k X) (B + 936) := by
  unfold gSt
  split
  · exact gGo_M (B := B + 468) (gGo_M hB hT) hT
  · exact fun i x e => Nat.le_trans (hB i x e) (by omega)
theorem gTn_M (hB : gM X B) : ∀ k, (∀ j x, j < k → G.2.2.2.2 j x ≤ x + 468) → gM (gTn G k X) (B + 936 * k)
  | 0, _ => fun i x e => hB i x e
  | k + 1, hT => by
    have := gSt_M (k := k) (gTn_M hB k (fun j x hj => hT j x (by omega))) (fun x => hT k x (by omega))
    exact fun i x e => Nat.le_trans (this i x e) (by omega)
theorem gIt_M (hW : G.1 ≤ 12) (hT : ∀ j x, j < G.1 → G.2.2.2.2 j x ≤ x + 468) (hB : gM X B) : ∀ t, gM (gIt G t X) (B + 11232 * t)
  | 0 => fun i x e => hB i x e
  | t + 1 => fun i x e => by
    have := gTn_M (gIt_M hW hT hB t) G.1 hT i x e
    have : 936 * G.1 ≤ 936 * 12 := Nat.mul_le_mul_left _ hW
    omega
def ffR (G : gW) (T fm x0 : Nat) (h : zH) (v : Option zV) (g : zH) : Prop := v = none ∧ gF 95 h g ∧ gA 1000000000 95 (gIt G T (gB fm x0)) g
theorem N_ffd (K : seC c W a b dy op h) (hcl : h.2.1 86 1 = cl) (hn : h.2.1 c 4 = nI n) (hn7 : n ≤ 7) (hf : fm < 7) (hx : x0 ≤ 700000) (hG : gR (gD W a b (okW cl kd a b fm) kd op dy)) : zPa d mX6_findFirstDays [.inr (.inr (some 94)), .inl kd, .inl (nI fm), .inl (nI x0)] h (ffR (gD W a b (okW cl kd a b fm) kd op dy) (if kd = 0 then 1 else n) fm x0 h) := by
  intro N
  generalize eG : gD W a b (okW cl kd a b fm) kd op dy = G at hG ⊢
  have hW := K.2.2.1
  have hc : c = 2 ∨ c = 42 := K.2.1
  have G1 : G.1 = W := by rw [← eG]; rfl
  have Ga : ∀ k, G.2.1 k = a k := fun k => by rw [← eG]; rfl
  have Gb : ∀ k, G.2.2.1 k = b k := fun k => by rw [← eG]; rfl
  have Go : ∀ k, G.2.2.2.1 k = okW cl kd a b fm k := fun k => by rw [← eG]; rfl
  have hT : ∀ j x, j < G.1 → G.2.2.2.2 j x ≤ x + 468 := fun j x hj => by
    rw [← eG]
    exact gT_hi (K.2.2.2.2.2 j (by omega)).2.2.2.2.2.2
  generalize eT : (if kd = 0 then 1 else n) = T
  have hT7 : T ≤ 7 := by
    by_cases z : kd = 0
    · rw [if_pos z] at eT; omega
    · rw [if_neg z] at eT; omega
  have lp : ∀ N, (∀ (t : Nat) (so : Int32) (ls : zL) (g : zH), t ≤ T → gF 95 h g → gA 1000000000 95 (gIt G t (gB fm x0)) g → (so = 1 ∨ (so = 0 ∧ ∀ u, gIt G (t + u) (gB fm x0) = gIt G t (gB fm x0))) → zget ls 0 = some (.inr (.inr (some 94))) → zget ls 1 = some (.inl kd) → zget ls 2 = some (.inl (nI fm)) → zget ls 4 = some (.inl (nI T)) → zget ls 5 = some (.inl so) → zget ls 6 = some (.inl (nI t)) → zPn N none d mX6_findFirstDays (39, ls, [], g) (ffR G T fm x0 h)) ∧ (∀ (t k : Nat) (so : Int32) (ls : zL) (g : zH), t < T → k ≤ W → gF 95 h g → gA 1000000000 95 (gTn G k (gIt G t (gB fm x0))) g → (so = 1 ∨ (so = 0 ∧ gTn G k (gIt G t (gB fm x0)) = gIt G t (gB fm x0))) → zget ls 0 = some (.inr (.inr (some 94))) → zget ls 1 = some (.inl kd) → zget ls 2 = some (.inl (nI fm)) → zget ls 4 = some (.inl (nI T)) → zget ls 5 = some (.inl so) → zget ls 6 = some (.inl (nI t)) → zget ls 7 = some (.inl (nI k)) → zPn N none d mX6_findFirstDays (57, ls, [], g) (ffR G T fm x0 h)) := by
    intro N
    induction N with
    | zero => exact ⟨by intros; exact zPn.zero, by intros; exact zPn.zero⟩
    | succ N ih =>
      have inner : ∀ (t k : Nat) (so : Int32) (ls : zL) (g : zH), t < T → k ≤ W → gF 95 h g → gA 1000000000 95 (gTn G k (gIt G t (gB fm x0))) g → (so = 1 ∨ (so = 0 ∧ gTn G k (gIt G t (gB fm x0)) = gIt G t (gB fm x0))) → zget ls 0 = some (.inr (.inr (some 94))) → zget ls 1 = some (.inl kd) → zget ls 2 = some (.inl (nI fm)) → zget ls 4 = some (.inl (nI T)) → zget ls 5 = some (.inl so) → zget ls 6 = some (.inl (nI t)) → zget ls 7 = some (.inl (nI k)) → zPn (N + 1) none d mX6_findFirstDays (57, ls, [], g) (ffR G T fm x0 h) := by
        intro t k so ls g ht hk hF hA hso hl0 hl1 hl2 hl4 hl5 hl6 hl7
        have K2 := K.fr hF
        have s94 : zsh g 94 = some (6, 7) := zsh_by K2.1 (by decide +kernel)
        have sc : zsh g c = some (4, 15) := by
          rcases hc with z | z <;> subst z
          · exact zsh_by K2.1 (by decide +kernel)
          · exact zsh_by K2.1 (by decide +kernel)
        have sa : zsh g (c + 3) = some (19, 12) := by
          rcases hc with z | z <;> subst z
          · exact zsh_by K2.1 (by decide +kernel)
          · exact zsh_by K2.1 (by decide +kernel)
        obtain ⟨r0, r1, r3, r11, rw⟩ := K2.2.2.2.1
        have e5 := K2.2.2.2.2.1
        have hB := gTn_M (gIt_M (G := G) (by omega) hT (gB_M (fm := fm) (x0 := x0)) t) k (fun j x hj => hT j x (by omega))
        generalize eY : gTn G k (gIt G t (gB fm x0)) = Y at hA hB hso
        refine pa_iload (pc' := 59) dX6_findFirstDays_57 hl7 rfl ?_
        refine pa_aload_n (pc' := 60) dX6_findFirstDays_59 hl0 rfl ?_
        refine pa_getR (pc' := 63) (n := 7) (r := c) dX6_findFirstDays_60 fl_6_25 s94 (by decide) r0 rfl ?_
        refine pa_getI (pc' := 66) (n := 15) (v := nI W) dX6_findFirstDays_63 fl_6_49 sc (by decide) e5 rfl ?_
        refine pa_icmp (pc' := 185) (pc2 := 69) dX6_findFirstDays_66 (by decide) rfl (fun w => ?_) (fun w => ?_)
        · have w := zi_nlt (zk_ge_lt w)
          rw [nI_toInt (by omega), nI_toInt (by omega)] at w
          have ek : k = W := by omega
          subst ek
          rw [← G1] at eY
          refine pa_iinc (pc' := 188) (v := nI (t + 1)) dX6_findFirstDays_185 hl6 (by decide) (nI_add t 1) rfl rfl ?_
          refine pa_gotos (pc' := 39) dX6_findFirstDays_188 (by decide) ?_
          refine ih.1 (t + 1) so _ g (by omega) hF (by rw [← eY] at hA; exact hA) ?_ (zget_s1 hl0 (by decide) (by simp [zcat])) (zget_s1 hl1 (by decide) (by simp [zcat])) (zget_s1 hl2 (by decide) (by simp [zcat])) (zget_s1 hl4 (by decide) (by simp [zcat])) (zget_s1 hl5 (by decide) (by simp [zcat])) zget_s1e
          refine hso.imp id (fun q => ⟨q.1, fun u => ?_⟩)
          have fx : gTn G G.1 (gIt G t (gB fm x0)) = gIt G t (gB fm x0) := eY.trans q.2
          rw [show t + 1 + u = t + (1 + u) by omega, gIt_fix fx (1 + u), gIt_fix fx 1]
        · have w := zi_lt (zk_ge_lt w)
          rw [nI_toInt (by omega), nI_toInt (by omega)] at w
          have sw := K2.wy (k := k) (by omega)
          obtain ⟨ea, eb, -, -, la, lb, ld⟩ := K2.2.2.2.2.2 k (by omega)
          have sa20 : True := trivial
          have nxt : ∀ (so' : Int32) (ls' : zL) (g' : zH), gF 95 h g' → gA 1000000000 95 (gSt G k Y) g' → (so' = 1 ∨ (so' = 0 ∧ gSt G k Y = gIt G t (gB fm x0))) → zget ls' 0 = some (.inr (.inr (some 94))) → zget ls' 1 = some (.inl kd) → zget ls' 2 = some (.inl (nI fm)) → zget ls' 4 = some (.inl (nI T)) → zget ls' 5 = some (.inl so') → zget ls' 6 = some (.inl (nI t)) → zget ls' 7 = some (.inl (nI k)) → zPn (N + 1) none d mX6_findFirstDays (179, ls', [], g') (ffR G T fm x0 h) := by
            intro so' ls' g' hF' hA' hso' m0 m1 m2 m4 m5 m6 m7
            refine pa_iinc (pc' := 182) (v := nI (k + 1)) dX6_findFirstDays_179 m7 (by decide) (nI_add k 1) rfl rfl ?_
            refine pa_gotos (pc' := 57) dX6_findFirstDays_182 (by decide) ?_
            exact ih.2 t (k + 1) so' _ g' ht (by omega) hF' (by show gA 1000000000 95 (gSt G k (gTn G k (gIt G t (gB fm x0)))) g'; rw [eY]; exact hA') (by show so' = 1 ∨ (so' = 0 ∧ gSt G k (gTn G k (gIt G t (gB fm x0))) = gIt G t (gB fm x0)); rw [eY]; exact hso') (zget_s1 m0 (by decide) (by simp [zcat])) (zget_s1 m1 (by decide) (by simp [zcat])) (zget_s1 m2 (by decide) (by simp [zcat])) (zget_s1 m4 (by decide) (by simp [zcat])) (zget_s1 m5 (by decide) (by simp [zcat])) (zget_s1 m6 (by decide) (by simp [zcat])) zget_s1e
          have no : okW cl kd a b fm k = false → gSt G k Y = Y := fun z => by
            unfold gSt
            rw [Go, z]
            exact if_neg (by decide)
          refine pa_aload_n (pc' := 70) dX6_findFirstDays_69 hl0 rfl ?_
          refine pa_getR (pc' := 73) (n := 7) (r := c) dX6_findFirstDays_70 fl_6_25 s94 (by decide) r0 rfl ?_
          refine pa_getR (pc' := 76) (n := 15) (r := c + 3) dX6_findFirstDays_73 fl_6_52 sc (by decide) r11 rfl ?_
          refine pa_iload (pc' := 78) dX6_findFirstDays_76 hl7 rfl ?_
          refine pa_aald (pc' := 79) (r := c + 7 + k) dX6_findFirstDays_78 sa (by decide) (zn_in (by omega) (by omega)) (by rw [nI_clamp (by omega)]; exact (rw k (by omega))) rfl ?_
          refine pa_astore (pc' := 81) dX6_findFirstDays_79 (by decide) rfl rfl ?_
          have n0 := zget_s1 (k := 8) (v := .inr (.inr (some (c + 7 + k)))) hl0 (by decide) (by simp [zcat])
          have n1 := zget_s1 (k := 8) (v := .inr (.inr (some (c + 7 + k)))) hl1 (by decide) (by simp [zcat])
          have n2 := zget_s1 (k := 8) (v := .inr (.inr (some (c + 7 + k)))) hl2 (by decide) (by simp [zcat])
          have n4 := zget_s1 (k := 8) (v := .inr (.inr (some (c + 7 + k)))) hl4 (by decide) (by simp [zcat])
          have n5 := zget_s1 (k := 8) (v := .inr (.inr (some (c + 7 + k)))) hl5 (by decide) (by simp [zcat])
          have n6 := zget_s1 (k := 8) (v := .inr (.inr (some (c + 7 + k)))) hl6 (by decide) (by simp [zcat])
          have n7 := zget_s1 (k := 8) (v := .inr (.inr (some (c + 7 + k)))) hl7 (by decide) (by simp [zcat])
          have n8 := zget_s1e (l := ls) (k := 8) (v := .inr (.inr (some (c + 7 + k))))
          generalize zset1 ls 8 (.inr (.inr (some (c + 7 + k)))) = ls1 at n0 n1 n2 n4 n5 n6 n7 n8 ⊢
          have far : ∀ z : Int32, (z = 1 ∧ okW cl kd a b fm k = false) ∨ (z = 0 ∧ okW cl kd a b fm k = !(clB cl k)) → zPn (N + 1) none d mX6_findFirstDays (108, ls1, [.inl z], g) (ffR G T fm x0 h) := by
            intro z hz
            refine pa_istore (pc' := 110) dX6_findFirstDays_108 (by decide) rfl rfl ?_
            have p0 := zget_s1 (k := 9) (v := .inl z) n0 (by decide) (by simp [zcat])
            have p1 := zget_s1 (k := 9) (v := .inl z) n1 (by decide) (by simp [zcat])
            have p2 := zget_s1 (k := 9) (v := .inl z) n2 (by decide) (by simp [zcat])
            have p4 := zget_s1 (k := 9) (v := .inl z) n4 (by decide) (by simp [zcat])
            have p5 := zget_s1 (k := 9) (v := .inl z) n5 (by decide) (by simp [zcat])
            have p6 := zget_s1 (k := 9) (v := .inl z) n6 (by decide) (by simp [zcat])
            have p7 := zget_s1 (k := 9) (v := .inl z) n7 (by decide) (by simp [zcat])
            have p8 := zget_s1 (k := 9) (v := .inl z) n8 (by decide) (by simp [zcat])
            have p9 := zget_s1e (l := ls1) (k := 9) (v := .inl z)
            generalize zset1 ls1 9 (.inl z) = ls2 at p0 p1 p2 p4 p5 p6 p7 p8 p9 ⊢
            refine pa_iload (pc' := 112) dX6_findFirstDays_110 p9 rfl ?_
            rcases hz with ⟨z1, z2⟩ | ⟨z1, z2⟩
            · subst z1
              refine pa_if_t (pc' := 179) dX6_findFirstDays_112 (by decide) (by decide) ?_
              exact nxt so ls2 g hF (by rw [no z2]; exact hA) (by rw [no z2]; exact hso) p0 p1 p2 p4 p5 p6 p7
            · subst z1
              refine pa_if_f (pc' := 115) dX6_findFirstDays_112 (by decide) (by decide) rfl ?_
              refine pa_aload_n (pc' := 116) dX6_findFirstDays_115 p0 rfl ?_
              refine pa_getR (pc' := 119) (n := 7) (r := 86) dX6_findFirstDays_116 fl_6_29 s94 (by decide) r1 rfl ?_
              refine pa_iload (pc' := 121) dX6_findFirstDays_119 p7 rfl ?_
              refine pa_callv (pc' := 124) (vs := [.inl (nI k)]) (rest := []) dX6_findFirstDays_121 ml_6_64 (by decide) rfl rfl rfl (fun d' _ => N_isClosed (cl := cl) K2.1 ((hF.2.2 86 1 (by decide)).trans hcl)) (fun v g9 hq => ?_)
              obtain ⟨ev, eh⟩ := hq
              subst ev
              rw [eh]
              show zPn (N + 1) none d mX6_findFirstDays (124, _, [.inl (if clB cl k = true then 1 else 0)], g) _
              by_cases z3 : clB cl k = true
              · rw [if_pos z3]
                have z2 : okW cl kd a b fm k = false := by rw [z2, z3]; rfl
                refine pa_if_t (pc' := 179) dX6_findFirstDays_124 (by decide) (by decide) ?_
                exact nxt so ls2 g hF (by rw [no z2]; exact hA) (by rw [no z2]; exact hso) p0 p1 p2 p4 p5 p6 p7
              · rw [if_neg z3]
                have z2 : okW cl kd a b fm k = true := by rw [z2, Bool.eq_false_iff.mpr z3]; rfl
                have st : gSt G k Y = gGo G k (b k) (a k) (gGo G k (a k) (b k) Y) := by
                  unfold gSt
                  rw [Go, z2, Ga, Gb]
                  exact if_pos rfl
                have hB1 : gM (gGo G k (a k) (b k) Y) (x0 + 11232 * t + 936 * k + 468) := gGo_M hB (fun x => hT k x (by omega))
                have fin : ∀ (so' : Int32) (g' : zH), gF 95 h g' → gA 1000000000 95 (gSt G k Y) g' → (so' = 1 ∨ (so' = 0 ∧ gSt G k Y = gIt G t (gB fm x0))) → zPn (N + 1) none d mX6_findFirstDays (177, ls2, [.inl so'], g') (ffR G T fm x0 h) := by
                  intro so' g' hF' hA' hso'
                  refine pa_istore (pc' := 179) dX6_findFirstDays_177 (by decide) rfl rfl ?_
                  exact nxt so' _ g' hF' hA' hso' (zget_s1 p0 (by decide) (by simp [zcat])) (zget_s1 p1 (by decide) (by simp [zcat])) (zget_s1 p2 (by decide) (by simp [zcat])) (zget_s1 p4 (by decide) (by simp [zcat])) zget_s1e (zget_s1 p6 (by decide) (by simp [zcat])) (zget_s1 p7 (by decide) (by simp [zcat]))
                have one : ∀ (g' : zH), gF 95 h g' → gA 1000000000 95 (gSt G k Y) g' → zPn (N + 1) none d mX6_findFirstDays (172, ls2, [], g') (ffR G T fm x0 h) := by
                  intro g' hF' hA'
                  refine pa_iconst (v := 1) (pc' := 173) dX6_findFirstDays_172 (by decide) rfl ?_
                  refine pa_goto (pc' := 177) dX6_findFirstDays_173 (by decide) ?_
                  exact fin 1 g' hF' hA' (.inl rfl)
                refine pa_if_f (pc' := 127) dX6_findFirstDays_124 (by decide) (by decide) rfl ?_
                refine pa_aload_n (pc' := 128) dX6_findFirstDays_127 p0 rfl ?_
                refine pa_iload_n (pc' := 129) dX6_findFirstDays_128 p1 rfl ?_
                refine pa_aload (pc' := 131) dX6_findFirstDays_129 p8 rfl ?_
                refine pa_aload (pc' := 133) dX6_findFirstDays_131 p8 rfl ?_
                refine pa_getI (pc' := 136) (n := 4) (v := nI (a k)) dX6_findFirstDays_133 fl_6_56 sw (by decide) ea rfl ?_
                refine pa_aload (pc' := 138) dX6_findFirstDays_136 p8 rfl ?_
                refine pa_getI (pc' := 141) (n := 4) (v := nI (b k)) dX6_findFirstDays_138 fl_6_61 sw (by decide) eb rfl ?_
                refine pa_callv (pc' := 144) (vs := [.inl kd, .inr (.inr (some (c + 7 + k))), .inl (nI (a k)), .inl (nI (b k))]) (rest := []) dX6_findFirstDays_141 ml_6_70 (by decide) rfl rfl rfl (fun d' _ => by
                  have := N_goes (d := d') (kd := kd) (ok := okW cl kd a b fm) K2 (show k < W by omega) la lb hA hB (by omega)
                  rw [eG] at this
                  exact this) (fun v g2 hq => ?_)
                obtain ⟨f2, a2, q2⟩ := hq
                have F2 := hF.tr f2
                have K3 := K.fr F2
                rcases q2 with ⟨ev, eq⟩ | ⟨ev, x, ex, eq⟩
                · subst ev
                  rw [eq] at a2
                  show zPn (N + 1) none d mX6_findFirstDays (144, ls2, [.inl 0], g2) _
                  have s94 : zsh g2 94 = some (6, 7) := zsh_by K3.1 (by decide +kernel)
                  have sw := K3.wy (k := k) (by omega)
                  obtain ⟨ea, eb, -⟩ := K3.2.2.2.2.2 k (by omega)
                  refine pa_if_f (pc' := 147) dX6_findFirstDays_144 (by decide) (by decide) rfl ?_
                  refine pa_aload_n (pc' := 148) dX6_findFirstDays_147 p0 rfl ?_
                  refine pa_iload_n (pc' := 149) dX6_findFirstDays_148 p1 rfl ?_
                  refine pa_aload (pc' := 151) dX6_findFirstDays_149 p8 rfl ?_
                  refine pa_aload (pc' := 153) dX6_findFirstDays_151 p8 rfl ?_
                  refine pa_getI (pc' := 156) (n := 4) (v := nI (b k)) dX6_findFirstDays_153 fl_6_61 sw (by decide) eb rfl ?_
                  refine pa_aload (pc' := 158) dX6_findFirstDays_156 p8 rfl ?_
                  refine pa_getI (pc' := 161) (n := 4) (v := nI (a k)) dX6_findFirstDays_158 fl_6_56 sw (by decide) ea rfl ?_
                  refine pa_callv (pc' := 164) (vs := [.inl kd, .inr (.inr (some (c + 7 + k))), .inl (nI (b k)), .inl (nI (a k))]) (rest := []) dX6_findFirstDays_161 ml_6_70 (by decide) rfl rfl rfl (fun d' _ => by
                    have := N_goes (d := d') (kd := kd) (ok := okW cl kd a b fm) K3 (show k < W by omega) lb la a2 hB (by omega)
                    rw [eG] at this
                    exact this) (fun v g3 hq => ?_)
                  obtain ⟨f3, a3, q3⟩ := hq
                  have F3 := F2.tr f3
                  rw [eq] at st
                  rw [← st] at a3 q3
                  rcases q3 with ⟨ev, eq3⟩ | ⟨ev, -⟩
                  · subst ev
                    show zPn (N + 1) none d mX6_findFirstDays (164, ls2, [.inl 0], g3) _
                    refine pa_if_f (pc' := 167) dX6_findFirstDays_164 (by decide) (by decide) rfl ?_
                    refine pa_iload (pc' := 169) dX6_findFirstDays_167 p5 rfl ?_
                    rcases hso with z5 | ⟨z5, z6⟩
                    · subst z5
                      refine pa_if_f (pc' := 172) dX6_findFirstDays_169 (by decide) (by decide) rfl ?_
                      exact one g3 F3 a3
                    · subst z5
                      refine pa_if_t (pc' := 176) dX6_findFirstDays_169 (by decide) (by decide) ?_
                      refine pa_iconst (v := 0) (pc' := 177) dX6_findFirstDays_176 (by decide) rfl ?_
                      exact fin 0 g3 F3 a3 (.inr ⟨rfl, eq3.trans z6⟩)
                  · subst ev
                    show zPn (N + 1) none d mX6_findFirstDays (164, ls2, [.inl 1], g3) _
                    refine pa_if_t (pc' := 172) dX6_findFirstDays_164 (by decide) (by decide) ?_
                    exact one g3 F3 a3
                · subst ev
                  show zPn (N + 1) none d mX6_findFirstDays (144, ls2, [.inl 1], g2) _
                  have bk := gGo_back hG ex eq
                  rw [← st] at bk
                  rw [← bk] at a2
                  refine pa_if_t (pc' := 172) dX6_findFirstDays_144 (by decide) (by decide) ?_
                  exact one g2 F2 a2
          refine pa_iload_n (pc' := 82) dX6_findFirstDays_81 n1 rfl ?_
          have z107 : okW cl kd a b fm k = !(clB cl k) → zPn (N + 1) none d mX6_findFirstDays (107, ls1, [], g) (ffR G T fm x0 h) := fun q => by
            refine pa_iconst (v := 0) (pc' := 108) dX6_findFirstDays_107 (by decide) rfl ?_
            exact far 0 (.inr ⟨rfl, q⟩)
          by_cases z1 : kd = 0
          · refine pa_if_f (pc' := 85) dX6_findFirstDays_82 (decide_eq_false (not_not_intro z1)) (by decide) rfl ?_
            refine pa_aload (pc' := 87) dX6_findFirstDays_85 n8 rfl ?_
            refine pa_getI (pc' := 90) (n := 4) (v := nI (a k)) dX6_findFirstDays_87 fl_6_56 sw (by decide) ea rfl ?_
            refine pa_iload_n (pc' := 91) dX6_findFirstDays_90 n2 rfl ?_
            by_cases z2 : a k = fm
            · refine pa_icmp_t (pc' := 107) dX6_findFirstDays_91 (decide_eq_true (by rw [z2])) (by decide) ?_
              exact z107 (by unfold okW; rw [decide_eq_true z2]; simp)
            · refine pa_icmp_f (pc' := 94) dX6_findFirstDays_91 (decide_eq_false (fun q => z2 (by have := congrArg Int32.toInt q; rw [nI_toInt (by omega), nI_toInt (by omega)] at this; omega))) (by decide) rfl ?_
              refine pa_aload (pc' := 96) dX6_findFirstDays_94 n8 rfl ?_
              refine pa_getI (pc' := 99) (n := 4) (v := nI (b k)) dX6_findFirstDays_96 fl_6_61 sw (by decide) eb rfl ?_
              refine pa_iload_n (pc' := 100) dX6_findFirstDays_99 n2 rfl ?_
              by_cases z3 : b k = fm
              · refine pa_icmp_t (pc' := 107) dX6_findFirstDays_100 (decide_eq_true (by rw [z3])) (by decide) ?_
                exact z107 (by unfold okW; rw [decide_eq_true z3]; simp)
              · refine pa_icmp_f (pc' := 103) dX6_findFirstDays_100 (decide_eq_false (fun q => z3 (by have := congrArg Int32.toInt q; rw [nI_toInt (by omega), nI_toInt (by omega)] at this; omega))) (by decide) rfl ?_
                refine pa_iconst (v := 1) (pc' := 104) dX6_findFirstDays_103 (by decide) rfl ?_
                refine pa_goto (pc' := 108) dX6_findFirstDays_104 (by decide) ?_
                exact far 1 (.inl ⟨rfl, by unfold okW; rw [decide_eq_false z2, decide_eq_false z3, decide_eq_false (not_not_intro z1)]; simp⟩)
          · refine pa_if_t (pc' := 107) dX6_findFirstDays_82 (decide_eq_true z1) (by decide) ?_
            exact z107 (by unfold okW; rw [decide_eq_true z1]; simp)
      refine ⟨fun t so ls g ht hF hA hso hl0 hl1 hl2 hl4 hl5 hl6 => ?_, inner⟩
      refine pa_iload (pc' := 41) dX6_findFirstDays_39 hl6 rfl ?_
      refine pa_iload (pc' := 43) dX6_findFirstDays_41 hl4 rfl ?_
      refine pa_icmp (pc' := 191) (pc2 := 46) dX6_findFirstDays_43 (by decide) rfl (fun w => ?_) (fun w => ?_)
      · have w := zi_nlt (zk_ge_lt w)
        rw [nI_toInt (by omega), nI_toInt (by omega)] at w
        have et : t = T := by omega
        subst et
        refine pa_vret dX6_findFirstDays_191 rfl ?_
        exact ⟨rfl, hF, hA⟩
      · have w := zi_lt (zk_ge_lt w)
        rw [nI_toInt (by omega), nI_toInt (by omega)] at w
        refine pa_iload (pc' := 48) dX6_findFirstDays_46 hl5 rfl ?_
        rcases hso with z5 | ⟨z5, z6⟩
        · subst z5
          refine pa_if_f (pc' := 51) dX6_findFirstDays_48 (by decide) (by decide) rfl ?_
          refine pa_iconst (v := 0) (pc' := 52) dX6_findFirstDays_51 (by decide) rfl ?_
          refine pa_istore (pc' := 54) dX6_findFirstDays_52 (by decide) rfl rfl ?_
          refine pa_iconst (v := nI 0) (pc' := 55) dX6_findFirstDays_54 (by decide) rfl ?_
          refine pa_istore (pc' := 57) dX6_findFirstDays_55 (by decide) rfl rfl ?_
          exact inner t 0 0 _ g (by omega) (Nat.zero_le _) hF hA (.inr ⟨rfl, rfl⟩) (zget_s1 (zget_s1 hl0 (by decide) (by simp [zcat])) (by decide) (by simp [zcat])) (zget_s1 (zget_s1 hl1 (by decide) (by simp [zcat])) (by decide) (by simp [zcat])) (zget_s1 (zget_s1 hl2 (by decide) (by simp [zcat])) (by decide) (by simp [zcat])) (zget_s1 (zget_s1 hl4 (by decide) (by simp [zcat])) (by decide) (by simp [zcat])) (zget_s1 zget_s1e (by decide) (by simp [zcat])) (zget_s1 (zget_s1 hl6 (by decide) (by simp [zcat])) (by decide) (by simp [zcat])) zget_s1e
        · subst z5
          refine pa_if_t (pc' := 191) dX6_findFirstDays_48 (by decide) (by decide) ?_
          refine pa_vret dX6_findFirstDays_191 rfl ?_
          refine ⟨rfl, hF, ?_⟩
          have := z6 (T - t)
          rw [show t + (T - t) = T by omega] at this
          rw [this]
          exact hA
  have s94 : zsh h 94 = some (6, 7) := zsh_by K.1 (by decide +kernel)
  obtain ⟨r0, r1, r3, r11, rw⟩ := K.2.2.2.1
  show zPn N none d mX6_findFirstDays (0, [(0, .inr (.inr (some 94))), (1, .inl kd), (2, .inl (nI fm)), (3, .inl (nI x0))], [], h) _
  refine pa_aload_n (pc' := 1) dX6_findFirstDays_0 rfl rfl ?_
  refine pa_getR (pc' := 4) (n := 7) (r := 95) dX6_findFirstDays_1 fl_6_9 s94 (by decide) r3 rfl ?_
  refine pa_ldc (pc' := 6) dX6_findFirstDays_4 cl_6_37 rfl rfl ?_
  refine pa_calls (pc' := 9) (kd := 1) (vs := [.inr (.inr (some 95)), .inl 1000000000]) (rest := []) dX6_findFirstDays_6 ml_6_38 (.inl rfl) rfl rfl rfl (fun d' _ => N_fill K.1) (fun v g hq => ?_)
  obtain ⟨ev, f1, a1⟩ := hq
  subst ev
  have K1 := K.fr f1
  have s94 : zsh g 94 = some (6, 7) := zsh_by K1.1 (by decide +kernel)
  have s95 : zsh g 95 = some (14, 7) := zsh_by K1.1 (by decide +kernel)
  have sc : zsh g c = some (4, 15) := by
    rcases hc with z | z <;> subst z
    · exact zsh_by K1.1 (by decide +kernel)
    · exact zsh_by K1.1 (by decide +kernel)
  have sc2 : zsh (zsI g 95 fm (nI x0)) c = some (4, 15) := sc
  obtain ⟨r0, r1, r3, r11, rw⟩ := K1.2.2.2.1
  have A1 : gA 1000000000 95 (gB fm x0) (zsI g 95 fm (nI x0)) := by
    unfold gB
    exact gA.up (X := fun _ => none) (fun i hi => (a1 i hi).trans (show (1000000000 : Int32) = nI 1000000000 by decide +kernel))
  show zPn N none d mX6_findFirstDays (9, _, [], g) _
  refine pa_aload_n (pc' := 10) dX6_findFirstDays_9 rfl rfl ?_
  refine pa_getR (pc' := 13) (n := 7) (r := 95) dX6_findFirstDays_10 fl_6_9 s94 (by decide) r3 rfl ?_
  refine pa_iload_n (pc' := 14) dX6_findFirstDays_13 rfl rfl ?_
  refine pa_iload_n (pc' := 15) dX6_findFirstDays_14 rfl rfl ?_
  refine pa_iast (pc' := 16) dX6_findFirstDays_15 s95 rfl (fun _ => ?_)
  rw [nI_clamp (by omega)]
  refine pa_iload_n (pc' := 17) dX6_findFirstDays_16 rfl rfl ?_
  by_cases z : kd = 0
  · rw [if_pos z] at eT
    subst eT
    refine pa_if_f (pc' := 20) dX6_findFirstDays_17 (decide_eq_false (not_not_intro z)) (by decide) rfl ?_
    refine pa_iconst (v := nI 1) (pc' := 21) dX6_findFirstDays_20 (by decide) rfl ?_
    refine pa_goto (pc' := 31) dX6_findFirstDays_21 (by decide) ?_
    refine pa_istore (pc' := 33) dX6_findFirstDays_31 (by decide) rfl rfl ?_
    refine pa_iconst (v := nI 1) (pc' := 34) dX6_findFirstDays_33 (by decide) rfl ?_
    refine pa_istore (pc' := 36) dX6_findFirstDays_34 (by decide) rfl rfl ?_
    refine pa_iconst (v := nI 0) (pc' := 37) dX6_findFirstDays_36 (by decide) rfl ?_
    refine pa_istore (pc' := 39) dX6_findFirstDays_37 (by decide) rfl rfl ?_
    exact (lp N).1 0 1 _ _ (Nat.zero_le _) (f1.tr gF.st) A1 (.inl rfl) rfl rfl rfl rfl rfl rfl
  · rw [if_neg z] at eT
    subst eT
    refine pa_if_t (pc' := 24) dX6_findFirstDays_17 (decide_eq_true z) (by decide) ?_
    have e4 : (zsI g 95 fm (nI x0)).2.1 c 4 = nI n := by rw [zsI_no (by omega), f1.2.2 _ _ (by omega)]; exact hn
    refine pa_aload_n (pc' := 25) dX6_findFirstDays_24 rfl rfl ?_
    refine pa_getR (pc' := 28) (n := 7) (r := c) dX6_findFirstDays_25 fl_6_25 s94 (by decide) r0 rfl ?_
    refine pa_getI (pc' := 31) (n := 15) (v := nI n) dX6_findFirstDays_28 fl_6_44 sc2 (by decide) e4 rfl ?_
    refine pa_istore (pc' := 33) dX6_findFirstDays_31 (by decide) rfl rfl ?_
    refine pa_iconst (v := nI 1) (pc' := 34) dX6_findFirstDays_33 (by decide) rfl ?_
    refine pa_istore (pc' := 36) dX6_findFirstDays_34 (by decide) rfl rfl ?_
    refine pa_iconst (v := nI 0) (pc' := 37) dX6_findFirstDays_36 (by decide) rfl ?_
    refine pa_istore (pc' := 39) dX6_findFirstDays_37 (by decide) rfl rfl ?_
    exact (lp N).1 0 1 _ _ (Nat.zero_le _) (f1.tr gF.st) A1 (.inl rfl) rfl rfl rfl rfl rfl rfl
end FFD
/-! the reference: one way gone -/
def gF2 (h g : zH) : Prop := g.1 = h.1 ∧ g.2.2 = h.2.2 ∧ ∀ b k, b ≠ 205 → b ≠ 206 → g.2.1 b k = h.2.1 b k
/-- the ways as the reference holds them -/
def seM (n W : Nat) (a b dy : Nat → Nat) (op : Nat → Int32) (cl : Int32) (h : zH) : Prop := h.1 = hh_487.1 ∧ n ≤ 7 ∧ W ≤ 12 ∧ (h.2.2.2.1 196 15 = some 199 ∧ h.2.2.2.1 196 17 = some 201 ∧ h.2.2.2.1 196 24 = some 205 ∧ h.2.2.2.1 196 25 = some 206) ∧ (h.2.1 199 4 = nI n ∧ h.2.1 199 5 = nI W ∧ h.2.1 201 1 = cl) ∧ ∀ k, k < W → h.2.1 199 (59 + 4 * k) = nI (a k) ∧ h.2.1 199 (59 + 4 * k + 1) = nI (b k) ∧ h.2.1 199 (59 + 4 * k + 2) = nI (dy k) ∧ h.2.1 199 (59 + 4 * k + 3) = op k ∧ a k < 7 ∧ b k < 7 ∧ dy k ≤ 99
def opK (op : Int32) : Prop := ∀ s, opB op s = true ∨ opB op (s + 1) = true ∨ opB op (s + 2) = true ∨ opB op (s + 3) = true
section GOB
variable {d N n W B k i at1 x : Nat} {h g : zH} {a b dy : Nat → Nat} {op : Nat → Int32} {ok : Nat → Bool} {kd cl : Int32} {X : gX}
theorem gF2.rf : gF2 h h := ⟨rfl, rfl, fun _ _ _ _ => rfl⟩
theorem gF2.tr {g2 : zH} (p : gF2 h g) (q : gF2 g g2) : gF2 h g2 := ⟨q.1.trans p.1, q.2.1.trans p.2.1, fun b k e e2 => (q.2.2 b k e e2).trans (p.2.2 b k e e2)⟩
theorem gF2.st5 {v : Int32} : gF2 h (zsI h 205 k v) := ⟨rfl, rfl, fun b j e _ => zsI_no (fun z => e z.1)⟩
theorem gF2.st6 {v : Int32} : gF2 h (zsI h 206 k v) := ⟨rfl, rfl, fun b j _ e => zsI_no (fun z => e z.1)⟩
theorem gF.f2 (f : gF 205 h g) : gF2 h g := ⟨f.1, f.2.1, fun b k e _ => f.2.2 b k e⟩
theorem seM.fr (K : seM n W a b dy op cl h) (f : gF2 h g) : seM n W a b dy op cl g := by
  obtain ⟨k1, k2, k3, k4, k5, k6⟩ := K
  refine ⟨f.1.trans k1, k2, k3, by rw [f.2.1]; exact k4, ?_, fun k hk => ?_⟩
  · rw [f.2.2 _ _ (by decide) (by decide), f.2.2 _ _ (by decide) (by decide), f.2.2 _ _ (by decide) (by decide)]
    exact k5
  · rw [f.2.2 _ _ (by decide) (by decide), f.2.2 _ _ (by decide) (by decide), f.2.2 _ _ (by decide) (by decide), f.2.2 _ _ (by decide) (by decide)]
    exact k6 k hk
theorem M_hasBitK {q : Int32} : zPa d mX12_hasBit [.inl q, .inl (nI k)] h (fun v h' => v = some (.inl (if clB q k = true then 1 else 0)) ∧ h' = h) := by
  intro N
  show zPn N none d mX12_hasBit (0, [(0, .inl q), (1, .inl (nI k))], [], h) _
  refine pa_iload_n (pc' := 1) dX12_hasBit_0 rfl rfl ?_
  refine pa_iload_n (pc' := 2) dX12_hasBit_1 rfl rfl ?_
  refine pa_ishr (pc' := 3) dX12_hasBit_2 rfl rfl ?_
  refine pa_iconst (v := 1) (pc' := 4) dX12_hasBit_3 (by decide) rfl ?_
  refine pa_iand (pc' := 5) dX12_hasBit_4 rfl rfl ?_
  refine pa_iconst (v := 1) (pc' := 6) dX12_hasBit_5 (by decide) rfl ?_
  rcases and1 (q >>> (nI k &&& 31)) with z | z
  · have e : ¬ clB q k = true := by unfold clB; rw [z]; decide
    rw [if_neg e, z]
    refine pa_icmp_t (pc' := 13) dX12_hasBit_6 (by decide) (by decide) ?_
    refine pa_iconst (v := 0) (pc' := 14) dX12_hasBit_13 (by decide) rfl ?_
    refine pa_iret dX12_hasBit_14 rfl rfl ?_
    exact ⟨rfl, rfl⟩
  · have e : clB q k = true := by unfold clB; rw [z]; decide
    rw [if_pos e, z]
    refine pa_icmp_f (pc' := 9) dX12_hasBit_6 (by decide) (by decide) rfl ?_
    refine pa_iconst (v := 1) (pc' := 10) dX12_hasBit_9 (by decide) rfl ?_
    refine pa_goto (pc' := 14) dX12_hasBit_10 (by decide) ?_
    refine pa_iret dX12_hasBit_14 rfl rfl ?_
    exact ⟨rfl, rfl⟩
theorem M_isClosed (K : seM n W a b dy op cl h) : zPa d mX12_isClosed [.inr (.inr (some 196)), .inl (nI k)] h (fun v h' => v = some (.inl (if clB cl k = true then 1 else 0)) ∧ h' = h) := by
  intro N
  have s196 := sh_196' K.1
  have s201 : zsh h 201 = some (14, 76) := zsh_by K.1 (by decide +kernel)
  have r17 := K.2.2.2.1.2.1
  have e1 := K.2.2.2.2.1.2.2
  show zPn N none d mX12_isClosed (0, [(0, .inr (.inr (some 196))), (1, .inl (nI k))], [], h) _
  refine pa_aload_n (pc' := 1) dX12_isClosed_0 rfl rfl ?_
  refine pa_getR (pc' := 4) (n := 39) (r := 201) dX12_isClosed_1 fl_12_26 s196 (by decide) r17 rfl ?_
  refine pa_iconst (v := nI 1) (pc' := 5) dX12_isClosed_4 (by decide) rfl ?_
  refine pa_iald (pc' := 6) dX12_isClosed_5 s201 rfl (fun _ => ?_)
  rw [nI_clamp (by omega), e1]
  refine pa_iload_n (pc' := 7) dX12_isClosed_6 rfl rfl ?_
  refine pa_calls (pc' := 10) (kd := 1) (vs := [.inl cl, .inl (nI k)]) (rest := []) dX12_isClosed_7 ml_12_298 (.inl rfl) rfl rfl rfl (fun d' _ => M_hasBitK) (fun v g9 hq => ?_)
  obtain ⟨ev, eh⟩ := hq
  subst ev
  rw [eh]
  show zPn N none d mX12_isClosed (10, _, [.inl (if clB cl k = true then 1 else 0)], h) _
  exact pa_iret dX12_isClosed_10 rfl (by split <;> rfl) ⟨rfl, rfl⟩
theorem M_setsOutA (K : seM n W a b dy op cl h) (hk : k < W) (hb : opK (op k)) (hx : x ≤ 1000000) : zPa d mX12_setsOut [.inr (.inr (some 196)), .inl (nI k), .inl kd, .inl (nI x)] h (fun v h' => v = some (.inl (nI (gLv kd (op k) x))) ∧ h' = h) := by
  have hW := K.2.2.1
  obtain ⟨-, -, -, e3, -⟩ := K.2.2.2.2.2 k hk
  unfold gLv
  by_cases z : kd = 3
  · rw [if_pos z]
    intro N
    show zPn N none d mX12_setsOut (0, [(0, .inr (.inr (some 196))), (1, .inl (nI k)), (2, .inl kd), (3, .inl (nI x))], [], h) _
    refine pa_iload_n (pc' := 1) dX12_setsOut_0 rfl rfl ?_
    refine pa_istore (pc' := 3) dX12_setsOut_1 (by decide) rfl rfl ?_
    refine pa_iload_n (pc' := 4) dX12_setsOut_3 rfl rfl ?_
    refine pa_iconst (v := 3) (pc' := 5) dX12_setsOut_4 (by decide) rfl ?_
    refine pa_icmp_t (pc' := 47) dX12_setsOut_5 (decide_eq_true z) (by decide) ?_
    refine pa_iload (pc' := 49) dX12_setsOut_47 rfl rfl ?_
    refine pa_iret dX12_setsOut_49 rfl rfl ?_
    exact ⟨rfl, rfl⟩
  · rw [if_neg z]
    exact M_setsOut K.1 K.2.2.2.1.1 (by omega) e3 hb z hx
theorem M_dayBy (K : seM n W a b dy op cl h) (hk : k < W) (hb : opK (op k)) (hx : x ≤ 1000000) : zPa d mX12_dayBy [.inr (.inr (some 196)), .inl (nI k), .inl kd, .inl (nI x)] h (fun v h' => v = some (.inl (nI (gT kd op dy k x))) ∧ h' = h) := by
  intro N
  have hW := K.2.2.1
  have s196 := sh_196' K.1
  have s199 : zsh h 199 = some (14, 363) := zsh_by K.1 (by decide +kernel)
  have r15 := K.2.2.2.1.1
  obtain ⟨-, -, e2, -⟩ := K.2.2.2.2.2 k hk
  have rest : ∀ q : Nat, q * dy k = gDy kd (dy k) → zPn N none d mX12_dayBy (17, [(0, .inr (.inr (some 196))), (1, .inl (nI k)), (2, .inl kd), (3, .inl (nI x))], [.inl (nI q), .inl (nI (gLv kd (op k) x))], h) (fun v h' => v = some (.inl (nI (gT kd op dy k x))) ∧ h' = h) := fun q hq => by
    refine pa_aload_n (pc' := 18) dX12_dayBy_17 rfl rfl ?_
    refine pa_getR (pc' := 21) (n := 39) (r := 199) dX12_dayBy_18 fl_12_20 s196 (by decide) r15 rfl ?_
    refine pa_bipush (v := nI 59) (pc' := 23) dX12_dayBy_21 (by decide) rfl ?_
    refine pa_iconst (v := nI 4) (pc' := 24) dX12_dayBy_23 (by decide) rfl ?_
    refine pa_iload_n (pc' := 25) dX12_dayBy_24 rfl rfl ?_
    refine pa_imul (pc' := 26) (v := nI (4 * k)) dX12_dayBy_25 (nI_mul _ _) rfl ?_
    refine pa_iadd (pc' := 27) (v := nI (59 + 4 * k)) dX12_dayBy_26 (nI_add _ _) rfl ?_
    refine pa_iconst (v := nI 2) (pc' := 28) dX12_dayBy_27 (by decide) rfl ?_
    refine pa_iadd (pc' := 29) (v := nI (59 + 4 * k + 2)) dX12_dayBy_28 (nI_add _ _) rfl ?_
    refine pa_iald (pc' := 30) dX12_dayBy_29 s199 rfl (fun _ => ?_)
    rw [nI_clamp (by omega), e2]
    refine pa_imul (pc' := 31) (v := nI (q * (dy k))) dX12_dayBy_30 (nI_mul _ _) rfl ?_
    refine pa_iadd (pc' := 32) (v := nI (gLv kd (op k) x + q * (dy k))) dX12_dayBy_31 (nI_add _ _) rfl ?_
    refine pa_iret dX12_dayBy_32 rfl rfl ?_
    exact ⟨by rw [hq]; rfl, rfl⟩
  show zPn N none d mX12_dayBy (0, [(0, .inr (.inr (some 196))), (1, .inl (nI k)), (2, .inl kd), (3, .inl (nI x))], [], h) _
  refine pa_aload_n (pc' := 1) dX12_dayBy_0 rfl rfl ?_
  refine pa_iload_n (pc' := 2) dX12_dayBy_1 rfl rfl ?_
  refine pa_iload_n (pc' := 3) dX12_dayBy_2 rfl rfl ?_
  refine pa_iload_n (pc' := 4) dX12_dayBy_3 rfl rfl ?_
  refine pa_callv (pc' := 7) (vs := [.inl (nI k), .inl kd, .inl (nI x)]) (rest := []) dX12_dayBy_4 ml_12_334 (by decide) rfl rfl rfl (fun d' _ => M_setsOutA K hk hb hx) (fun v g9 hq => ?_)
  obtain ⟨ev, eh⟩ := hq
  subst ev
  rw [eh]
  show zPn N none d mX12_dayBy (7, _, [.inl (nI (gLv kd (op k) x))], h) _
  refine pa_iload_n (pc' := 8) dX12_dayBy_7 rfl rfl ?_
  refine pa_iconst (v := 2) (pc' := 9) dX12_dayBy_8 (by decide) rfl ?_
  by_cases z : kd = 2
  · refine pa_icmp_f (pc' := 12) dX12_dayBy_9 (decide_eq_false (not_not_intro z)) (by decide) rfl ?_
    refine pa_iconst (v := nI 2) (pc' := 13) dX12_dayBy_12 (by decide) rfl ?_
    refine pa_goto (pc' := 17) dX12_dayBy_13 (by decide) ?_
    exact rest 2 (by unfold gDy; rw [if_pos z])
  · refine pa_icmp_t (pc' := 16) dX12_dayBy_9 (decide_eq_true z) (by decide) ?_
    refine pa_iconst (v := nI 1) (pc' := 17) dX12_dayBy_16 (by decide) rfl ?_
    exact rest 1 (by unfold gDy; rw [if_neg z, Nat.one_mul])
theorem M_goesBy (K : seM n W a b dy op cl h) (hk : k < W) (hok : ok k = true) (hb : opK (op k)) (hi : at1 < 7) (hX : gA 1000000 205 X h) (hB : gM X B) (hB2 : B ≤ 900000) (ex : X at1 = some x) : zPa d mX12_goesBy [.inr (.inr (some 196)), .inl (nI k), .inl kd, .inl (nI at1)] h (fun v g => v = none ∧ gF 205 h g ∧ gA 1000000 205 (dSt (gD W a b ok kd op dy) at1 k X) g) := by
  intro N
  have hW := K.2.2.1
  have s196 := sh_196' K.1
  have s199 : zsh h 199 = some (14, 363) := zsh_by K.1 (by decide +kernel)
  have s205 : zsh h 205 = some (14, 7) := zsh_by K.1 (by decide +kernel)
  obtain ⟨r15, r17, r24, r25⟩ := K.2.2.2.1
  obtain ⟨e0, e1, e2, e3, la, lb, hd⟩ := K.2.2.2.2.2 k hk
  have ei := hX.some hi ex
  have hx := hB at1 x ex
  have hT := gT_hi (W := W) (a := a) (b := b) (ok := ok) (kd := kd) (op := op) (x := x) hd
  have ds : dSt (gD W a b ok kd op dy) at1 k X = if a k = at1 then gGo (gD W a b ok kd op dy) k at1 (b k) X else if b k = at1 then gGo (gD W a b ok kd op dy) k at1 (a k) X else X := by
    unfold dSt
    rw [show (gD W a b ok kd op dy).2.2.2.1 k = true from hok, if_pos rfl]
    rfl
  rw [ds]
  have e0' : h.2.1 199 (59 + 4 * k) = nI (a k) := e0
  have rest : ∀ j, j < 7 → zPn N none d mX12_goesBy (54, zset1 (zset1 [(0, .inr (.inr (some 196))), (1, .inl (nI k)), (2, .inl kd), (3, .inl (nI at1))] 4 (.inl (nI (a k)))) 5 (.inl (nI (b k))), [.inl (nI j)], h) (fun v g => v = none ∧ gF 205 h g ∧ gA 1000000 205 (gGo (gD W a b ok kd op dy) k at1 j X) g) := fun j hj => by
    refine pa_istore (pc' := 56) dX12_goesBy_54 (by decide) rfl rfl ?_
    refine pa_aload_n (pc' := 57) dX12_goesBy_56 rfl rfl ?_
    refine pa_iload_n (pc' := 58) dX12_goesBy_57 rfl rfl ?_
    refine pa_iload_n (pc' := 59) dX12_goesBy_58 rfl rfl ?_
    refine pa_aload_n (pc' := 60) dX12_goesBy_59 rfl rfl ?_
    refine pa_getR (pc' := 63) (n := 39) (r := 205) dX12_goesBy_60 fl_12_38 s196 (by decide) r24 rfl ?_
    refine pa_iload_n (pc' := 64) dX12_goesBy_63 rfl rfl ?_
    refine pa_iald (pc' := 65) dX12_goesBy_64 s205 rfl (fun _ => ?_)
    rw [nI_clamp (by omega), ei]
    refine pa_callv (pc' := 68) (vs := [.inl (nI k), .inl kd, .inl (nI x)]) (rest := []) dX12_goesBy_65 ml_12_346 (by decide) rfl rfl rfl (fun d' _ => M_dayBy K hk hb (by omega)) (fun v g9 hq => ?_)
    obtain ⟨ev, eh⟩ := hq
    subst ev
    rw [eh]
    show zPn N none d mX12_goesBy (68, _, [.inl (nI (gT kd op dy k x))], h) _
    refine pa_istore (pc' := 70) dX12_goesBy_68 (by decide) rfl rfl ?_
    have hT : gT kd op dy k x ≤ x + 468 := hT
    cases ej : X j with
    | none =>
      have ejj := hX.none hj ej
      have e : gGo (gD W a b ok kd op dy) k at1 j X = upA X j (some (gT kd op dy k x)) := by
        unfold gGo
        rw [ex, ej]
        rfl
      rw [e]
      refine pa_iload (pc' := 72) dX12_goesBy_70 rfl rfl ?_
      refine pa_aload_n (pc' := 73) dX12_goesBy_72 rfl rfl ?_
      refine pa_getR (pc' := 76) (n := 39) (r := 205) dX12_goesBy_73 fl_12_38 s196 (by decide) r24 rfl ?_
      refine pa_iload (pc' := 78) dX12_goesBy_76 rfl rfl ?_
      refine pa_iald (pc' := 79) dX12_goesBy_78 s205 rfl (fun _ => ?_)
      rw [nI_clamp (by omega), ejj]
      refine pa_icmp_f (pc' := 82) dX12_goesBy_79 (zk_lt_ge (b := true) (zj_lt (by rw [nI_toInt (by omega), nI_toInt (by omega)]; omega))) (by decide) rfl ?_
      refine pa_aload_n (pc' := 83) dX12_goesBy_82 rfl rfl ?_
      refine pa_getR (pc' := 86) (n := 39) (r := 205) dX12_goesBy_83 fl_12_38 s196 (by decide) r24 rfl ?_
      refine pa_iload (pc' := 88) dX12_goesBy_86 rfl rfl ?_
      refine pa_iload (pc' := 90) dX12_goesBy_88 rfl rfl ?_
      refine pa_iast (pc' := 91) dX12_goesBy_90 s205 rfl (fun _ => ?_)
      rw [nI_clamp (by omega)]
      refine pa_vret dX12_goesBy_91 rfl ?_
      exact ⟨rfl, gF.st, hX.up⟩
    | some y =>
      have ejj := hX.some hj ej
      have hy := hB j y ej
      refine pa_iload (pc' := 72) dX12_goesBy_70 rfl rfl ?_
      refine pa_aload_n (pc' := 73) dX12_goesBy_72 rfl rfl ?_
      refine pa_getR (pc' := 76) (n := 39) (r := 205) dX12_goesBy_73 fl_12_38 s196 (by decide) r24 rfl ?_
      refine pa_iload (pc' := 78) dX12_goesBy_76 rfl rfl ?_
      refine pa_iald (pc' := 79) dX12_goesBy_78 s205 rfl (fun _ => ?_)
      rw [nI_clamp (by omega), ejj]
      by_cases z : gT kd op dy k x < y
      · have e : gGo (gD W a b ok kd op dy) k at1 j X = upA X j (some (gT kd op dy k x)) := by
          unfold gGo
          rw [ex, ej]
          dsimp only
          exact if_pos z
        rw [e]
        refine pa_icmp_f (pc' := 82) dX12_goesBy_79 (zk_lt_ge (b := true) (zj_lt (by rw [nI_toInt (by omega), nI_toInt (by omega)]; omega))) (by decide) rfl ?_
        refine pa_aload_n (pc' := 83) dX12_goesBy_82 rfl rfl ?_
        refine pa_getR (pc' := 86) (n := 39) (r := 205) dX12_goesBy_83 fl_12_38 s196 (by decide) r24 rfl ?_
        refine pa_iload (pc' := 88) dX12_goesBy_86 rfl rfl ?_
        refine pa_iload (pc' := 90) dX12_goesBy_88 rfl rfl ?_
        refine pa_iast (pc' := 91) dX12_goesBy_90 s205 rfl (fun _ => ?_)
        rw [nI_clamp (by omega)]
        refine pa_vret dX12_goesBy_91 rfl ?_
        exact ⟨rfl, gF.st, hX.up⟩
      · have e : gGo (gD W a b ok kd op dy) k at1 j X = X := by
          unfold gGo
          rw [ex, ej]
          dsimp only
          exact if_neg z
        rw [e]
        refine pa_icmp_t (pc' := 91) dX12_goesBy_79 (zk_lt_ge (b := false) (zj_nlt (by rw [nI_toInt (by omega), nI_toInt (by omega)]; omega))) (by decide) ?_
        refine pa_vret dX12_goesBy_91 rfl ?_
        exact ⟨rfl, gF.rf, hX⟩
  have ne : ∀ {p q : Nat}, p < 7 → q < 7 → p ≠ q → ¬ nI p = nI q := fun hp hq hn z => hn (by have := congrArg Int32.toInt z; rw [nI_toInt (by omega), nI_toInt (by omega)] at this; omega)
  show zPn N none d mX12_goesBy (0, [(0, .inr (.inr (some 196))), (1, .inl (nI k)), (2, .inl kd), (3, .inl (nI at1))], [], h) _
  refine pa_aload_n (pc' := 1) dX12_goesBy_0 rfl rfl ?_
  refine pa_getR (pc' := 4) (n := 39) (r := 199) dX12_goesBy_1 fl_12_20 s196 (by decide) r15 rfl ?_
  refine pa_bipush (v := nI 59) (pc' := 6) dX12_goesBy_4 (by decide) rfl ?_
  refine pa_iconst (v := nI 4) (pc' := 7) dX12_goesBy_6 (by decide) rfl ?_
  refine pa_iload_n (pc' := 8) dX12_goesBy_7 rfl rfl ?_
  refine pa_imul (pc' := 9) (v := nI (4 * k)) dX12_goesBy_8 (nI_mul _ _) rfl ?_
  refine pa_iadd (pc' := 10) (v := nI (59 + 4 * k)) dX12_goesBy_9 (nI_add _ _) rfl ?_
  refine pa_iald (pc' := 11) dX12_goesBy_10 s199 rfl (fun _ => ?_)
  rw [nI_clamp (by omega), e0]
  refine pa_istore (pc' := 13) dX12_goesBy_11 (by decide) rfl rfl ?_
  refine pa_aload_n (pc' := 14) dX12_goesBy_13 rfl rfl ?_
  refine pa_getR (pc' := 17) (n := 39) (r := 199) dX12_goesBy_14 fl_12_20 s196 (by decide) r15 rfl ?_
  refine pa_bipush (v := nI 59) (pc' := 19) dX12_goesBy_17 (by decide) rfl ?_
  refine pa_iconst (v := nI 4) (pc' := 20) dX12_goesBy_19 (by decide) rfl ?_
  refine pa_iload_n (pc' := 21) dX12_goesBy_20 rfl rfl ?_
  refine pa_imul (pc' := 22) (v := nI (4 * k)) dX12_goesBy_21 (nI_mul _ _) rfl ?_
  refine pa_iadd (pc' := 23) (v := nI (59 + 4 * k)) dX12_goesBy_22 (nI_add _ _) rfl ?_
  refine pa_iconst (v := nI 1) (pc' := 24) dX12_goesBy_23 (by decide) rfl ?_
  refine pa_iadd (pc' := 25) (v := nI (59 + 4 * k + 1)) dX12_goesBy_24 (nI_add _ _) rfl ?_
  refine pa_iald (pc' := 26) dX12_goesBy_25 s199 rfl (fun _ => ?_)
  rw [nI_clamp (by omega), e1]
  refine pa_istore (pc' := 28) dX12_goesBy_26 (by decide) rfl rfl ?_
  refine pa_iload (pc' := 30) dX12_goesBy_28 rfl rfl ?_
  refine pa_iload_n (pc' := 31) dX12_goesBy_30 rfl rfl ?_
  by_cases z1 : a k = at1
  · rw [if_pos z1]
    refine pa_icmp_t (pc' := 41) dX12_goesBy_31 (decide_eq_true (by rw [z1])) (by decide) ?_
    refine pa_iload (pc' := 43) dX12_goesBy_41 rfl rfl ?_
    refine pa_iload_n (pc' := 44) dX12_goesBy_43 rfl rfl ?_
    refine pa_icmp_f (pc' := 47) dX12_goesBy_44 (decide_eq_false (not_not_intro (by rw [z1]))) (by decide) rfl ?_
    refine pa_iload (pc' := 49) dX12_goesBy_47 rfl rfl ?_
    refine pa_goto (pc' := 54) dX12_goesBy_49 (by decide) ?_
    exact rest (b k) lb
  · rw [if_neg z1]
    refine pa_icmp_f (pc' := 34) dX12_goesBy_31 (decide_eq_false (ne la hi z1)) (by decide) rfl ?_
    refine pa_iload (pc' := 36) dX12_goesBy_34 rfl rfl ?_
    refine pa_iload_n (pc' := 37) dX12_goesBy_36 rfl rfl ?_
    by_cases z2 : b k = at1
    · rw [if_pos z2]
      refine pa_icmp_t (pc' := 41) dX12_goesBy_37 (decide_eq_true (by rw [z2])) (by decide) ?_
      refine pa_iload (pc' := 43) dX12_goesBy_41 rfl rfl ?_
      refine pa_iload_n (pc' := 44) dX12_goesBy_43 rfl rfl ?_
      refine pa_icmp_t (pc' := 52) dX12_goesBy_44 (decide_eq_true (ne la hi z1)) (by decide) ?_
      refine pa_iload (pc' := 54) dX12_goesBy_52 rfl rfl ?_
      exact rest (a k) la
    · rw [if_neg z2]
      refine pa_icmp_f (pc' := 40) dX12_goesBy_37 (decide_eq_false (ne lb hi z2)) (by decide) rfl ?_
      refine pa_vret dX12_goesBy_40 rfl ?_
      exact ⟨rfl, gF.rf, hX⟩
end GOB
/-! the reference: all first days -/
def gOv (O : Nat → Bool) (h : zH) : Prop := ∀ i, i < 7 → h.2.1 206 i = if O i = true then 1 else 0
def pkV : Option Nat → Int32
  | none => -1
  | some q => nI q
def laR (D : gX) (h : zH) (v : Option zV) (g : zH) : Prop := v = none ∧ gF2 h g ∧ gA 1000000 205 D g
section LAY
variable {d N n W B k i fm x0 : Nat} {h g : zH} {a b dy : Nat → Nat} {op : Nat → Int32} {kd cl : Int32} {X : gX} {O : Nat → Bool} {G : gW}
theorem gA.f6 {nv : Nat} {v : Int32} (hA : gA nv 205 X h) : gA nv 205 X (zsI h 206 k v) := fun i hi => by
  rw [zsI_no (fun z => absurd z.1 (by decide))]
  exact hA i hi
theorem gOv.f5 {v : Int32} (hO : gOv O h) : gOv O (zsI h 205 k v) := fun i hi => by
  rw [zsI_no (fun z => absurd z.1 (by decide))]
  exact hO i hi
theorem gOv.fr (hO : gOv O h) (f : gF 205 h g) : gOv O g := fun i hi => (f.2.2 206 i (by decide)).trans (hO i hi)
theorem gOv.up (hO : gOv O h) : gOv (upA O k true) (zsI h 206 k 1) := fun i hi => by
  rw [zsI_at, upA_at]
  by_cases z : i = k
  · rw [if_pos ⟨rfl, z⟩, if_pos z, if_pos rfl]
  · rw [if_neg (fun w => z w.2), if_neg z]
    exact hO i hi
/-- the beginning -/
theorem M_lay0 (K : seM n W a b dy op cl h) {Q : Option zV → zH → Prop} (nx : ∀ (N : Nat) (ls : zL) (g : zH), gF2 h g → gA 1000000 205 (fun _ => none) g → gOv (fun _ => false) g → zget ls 0 = some (.inr (.inr (some 196))) → zget ls 1 = some (.inl kd) → zget ls 2 = some (.inl (nI fm)) → zget ls 3 = some (.inl (nI x0)) → zPn N none d mX12_layDays (34, ls, [], g) Q) : ∀ (N i : Nat) (ls : zL) (g : zH), i ≤ 7 → gF2 h g → (∀ j, j < i → g.2.1 205 j = nI 1000000 ∧ g.2.1 206 j = 0) → zget ls 0 = some (.inr (.inr (some 196))) → zget ls 1 = some (.inl kd) → zget ls 2 = some (.inl (nI fm)) → zget ls 3 = some (.inl (nI x0)) → zget ls 4 = some (.inl (nI i)) → zPn N none d mX12_layDays (3, ls, [], g) Q := by
  intro N
  induction N with
  | zero => intros; exact zPn.zero
  | succ N ih =>
    intro i ls g hi hf hv hl0 hl1 hl2 hl3 hl4
    have K2 := K.fr hf
    have s196 := sh_196' K2.1
    have s205 : zsh g 205 = some (14, 7) := zsh_by K2.1 (by decide +kernel)
    obtain ⟨r15, r17, r24, r25⟩ := K2.2.2.2.1
    refine pa_iload (pc' := 5) dX12_layDays_3 hl4 rfl ?_
    refine pa_bipush (v := nI 7) (pc' := 7) dX12_layDays_5 (by decide) rfl ?_
    refine pa_icmp (pc' := 34) (pc2 := 10) dX12_layDays_7 (by decide) rfl (fun w => ?_) (fun w => ?_)
    · have w := zi_nlt (zk_ge_lt w)
      rw [nI_toInt (by omega), nI_toInt (by omega)] at w
      exact nx _ ls g hf (fun j hj => (hv j (by omega)).1) (fun j hj => (hv j (by omega)).2) hl0 hl1 hl2 hl3
    · have w := zi_lt (zk_ge_lt w)
      rw [nI_toInt (by omega), nI_toInt (by omega)] at w
      refine pa_aload_n (pc' := 11) dX12_layDays_10 hl0 rfl ?_
      refine pa_getR (pc' := 14) (n := 39) (r := 205) dX12_layDays_11 fl_12_38 s196 (by decide) r24 rfl ?_
      refine pa_iload (pc' := 16) dX12_layDays_14 hl4 rfl ?_
      refine pa_ldcw (pc' := 19) dX12_layDays_16 cl_12_341 rfl rfl ?_
      refine pa_iast (pc' := 20) dX12_layDays_19 s205 rfl (fun _ => ?_)
      rw [nI_clamp (by omega)]
      have s206 : zsh (zsI g 205 i 1000000) 206 = some (14, 7) := zsh_by (h := zsI g 205 i 1000000) K2.1 (by decide +kernel)
      have s196 : zsh (zsI g 205 i 1000000) 196 = some (12, 39) := s196
      have r25 : (zsI g 205 i 1000000).2.2.2.1 196 25 = some 206 := r25
      refine pa_aload_n (pc' := 21) dX12_layDays_20 hl0 rfl ?_
      refine pa_getR (pc' := 24) (n := 39) (r := 206) dX12_layDays_21 fl_12_41 s196 (by decide) r25 rfl ?_
      refine pa_iload (pc' := 26) dX12_layDays_24 hl4 rfl ?_
      refine pa_iconst (v := 0) (pc' := 27) dX12_layDays_26 (by decide) rfl ?_
      refine pa_iast (pc' := 28) dX12_layDays_27 s206 rfl (fun _ => ?_)
      rw [nI_clamp (by omega)]
      refine pa_iinc (pc' := 31) (v := nI (i + 1)) dX12_layDays_28 hl4 (by decide) (nI_add i 1) rfl rfl ?_
      refine pa_gotos (pc' := 3) dX12_layDays_31 (by decide) ?_
      refine ih (i + 1) _ _ (by omega) ((hf.tr gF2.st5).tr gF2.st6) (fun j hj => ?_) (zget_s1 hl0 (by decide) (by simp [zcat])) (zget_s1 hl1 (by decide) (by simp [zcat])) (zget_s1 hl2 (by decide) (by simp [zcat])) (zget_s1 hl3 (by decide) (by simp [zcat])) zget_s1e
      rw [zsI_no (fun z => absurd z.1 (by decide)), zsI_at, zsI_at]
      by_cases z : j = i
      · rw [if_pos ⟨rfl, z⟩, if_pos ⟨rfl, z⟩]
        exact ⟨by decide +kernel, rfl⟩
      · rw [if_neg (fun q => z q.2), if_neg (fun q => z q.2), zsI_no (fun z => absurd z.1 (by decide))]
        exact hv j (by omega)
/-- which island is next -/
theorem M_lay1 (K : seM n W a b dy op cl g) (hA : gA 1000000 205 X g) (hO : gOv O g) (hB : gM X B) (hB2 : B ≤ 900000) {t : Nat} {Q : Option zV → zH → Prop} (nx : ∀ (N : Nat) (ls : zL), zget ls 0 = some (.inr (.inr (some 196))) → zget ls 1 = some (.inl kd) → zget ls 2 = some (.inl (nI fm)) → zget ls 4 = some (.inl (nI t)) → zget ls 5 = some (.inl (pkV (dPk X O n))) → zPn N none d mX12_layDays (127, ls, [], g) Q) : ∀ (N i : Nat) (ls : zL), i ≤ n → zget ls 0 = some (.inr (.inr (some 196))) → zget ls 1 = some (.inl kd) → zget ls 2 = some (.inl (nI fm)) → zget ls 4 = some (.inl (nI t)) → zget ls 5 = some (.inl (pkV (dPk X O i))) → zget ls 6 = some (.inl (nI i)) → zPn N none d mX12_layDays (61, ls, [], g) Q := by
  intro N
  have hn := K.2.1
  induction N with
  | zero => intros; exact zPn.zero
  | succ N ih =>
    intro i ls hi hl0 hl1 hl2 hl4 hl5 hl6
    have s196 := sh_196' K.1
    have s199 : zsh g 199 = some (14, 363) := zsh_by K.1 (by decide +kernel)
    have s205 : zsh g 205 = some (14, 7) := zsh_by K.1 (by decide +kernel)
    have s206 : zsh g 206 = some (14, 7) := zsh_by K.1 (by decide +kernel)
    obtain ⟨r15, r17, r24, r25⟩ := K.2.2.2.1
    have e4 := K.2.2.2.2.1.1
    refine pa_iload (pc' := 63) dX12_layDays_61 hl6 rfl ?_
    refine pa_aload_n (pc' := 64) dX12_layDays_63 hl0 rfl ?_
    refine pa_getR (pc' := 67) (n := 39) (r := 199) dX12_layDays_64 fl_12_20 s196 (by decide) r15 rfl ?_
    refine pa_iconst (v := nI 4) (pc' := 68) dX12_layDays_67 (by decide) rfl ?_
    refine pa_iald (pc' := 69) dX12_layDays_68 s199 rfl (fun _ => ?_)
    rw [nI_clamp (by omega), e4]
    refine pa_icmp (pc' := 127) (pc2 := 72) dX12_layDays_69 (by decide) rfl (fun w => ?_) (fun w => ?_)
    · have w := zi_nlt (zk_ge_lt w)
      rw [nI_toInt (by omega), nI_toInt (by omega)] at w
      have e : i = n := by omega
      subst e
      exact nx _ ls hl0 hl1 hl2 hl4 hl5
    · have w := zi_lt (zk_ge_lt w)
      rw [nI_toInt (by omega), nI_toInt (by omega)] at w
      have h7 : i < 7 := by omega
      have old : dPk X O (i + 1) = dPk X O i → zPn (N + 1) none d mX12_layDays (121, ls, [], g) Q := fun e => by
        refine pa_iinc (pc' := 124) (v := nI (i + 1)) dX12_layDays_121 hl6 (by decide) (nI_add i 1) rfl rfl ?_
        refine pa_gotos (pc' := 61) dX12_layDays_124 (by decide) ?_
        exact ih (i + 1) _ (by omega) (zget_s1 hl0 (by decide) (by simp [zcat])) (zget_s1 hl1 (by decide) (by simp [zcat])) (zget_s1 hl2 (by decide) (by simp [zcat])) (zget_s1 hl4 (by decide) (by simp [zcat])) (by rw [e]; exact zget_s1 hl5 (by decide) (by simp [zcat])) zget_s1e
      have new : dPk X O (i + 1) = some i → zPn (N + 1) none d mX12_layDays (117, ls, [], g) Q := fun e => by
        refine pa_iload (pc' := 119) dX12_layDays_117 hl6 rfl ?_
        refine pa_istore (pc' := 121) dX12_layDays_119 (by decide) rfl rfl ?_
        refine pa_iinc (pc' := 124) (v := nI (i + 1)) dX12_layDays_121 (zget_s1 hl6 (by decide) (by simp [zcat])) (by decide) (nI_add i 1) rfl rfl ?_
        refine pa_gotos (pc' := 61) dX12_layDays_124 (by decide) ?_
        exact ih (i + 1) _ (by omega) (zget_s1 (zget_s1 hl0 (by decide) (by simp [zcat])) (by decide) (by simp [zcat])) (zget_s1 (zget_s1 hl1 (by decide) (by simp [zcat])) (by decide) (by simp [zcat])) (zget_s1 (zget_s1 hl2 (by decide) (by simp [zcat])) (by decide) (by simp [zcat])) (zget_s1 (zget_s1 hl4 (by decide) (by simp [zcat])) (by decide) (by simp [zcat])) (by rw [e]; exact zget_s1 zget_s1e (by decide) (by simp [zcat])) zget_s1e
      have ho := hO i h7
      refine pa_aload_n (pc' := 73) dX12_layDays_72 hl0 rfl ?_
      refine pa_getR (pc' := 76) (n := 39) (r := 206) dX12_layDays_73 fl_12_41 s196 (by decide) r25 rfl ?_
      refine pa_iload (pc' := 78) dX12_layDays_76 hl6 rfl ?_
      refine pa_iald (pc' := 79) dX12_layDays_78 s206 rfl (fun _ => ?_)
      rw [nI_clamp (by omega), ho]
      by_cases z1 : O i = true
      · rw [if_pos z1]
        refine pa_if_t (pc' := 121) dX12_layDays_79 (by decide) (by decide) ?_
        refine old ?_
        show (match dPk X O i with | none => if O i = false then (match X i with | none => none | some _ => some i) else none | some a => if O i = false then (match X i, X a with | some d, some e => if d < e then some i else some a | _, _ => some a) else some a) = dPk X O i
        rw [z1]
        cases dPk X O i <;> rfl
      · rw [if_neg z1]
        have z1 : O i = false := Bool.eq_false_iff.mpr z1
        refine pa_if_f (pc' := 82) dX12_layDays_79 (by decide) (by decide) rfl ?_
        cases ex : X i with
        | none =>
          have ei := hA.none h7 ex
          refine pa_aload_n (pc' := 83) dX12_layDays_82 hl0 rfl ?_
          refine pa_getR (pc' := 86) (n := 39) (r := 205) dX12_layDays_83 fl_12_38 s196 (by decide) r24 rfl ?_
          refine pa_iload (pc' := 88) dX12_layDays_86 hl6 rfl ?_
          refine pa_iald (pc' := 89) dX12_layDays_88 s205 rfl (fun _ => ?_)
          rw [nI_clamp (by omega), ei]
          refine pa_ldcw (pc' := 92) dX12_layDays_89 cl_12_341 rfl rfl ?_
          refine pa_icmp_t (pc' := 121) dX12_layDays_92 (by decide +kernel) (by decide) ?_
          refine old ?_
          show (match dPk X O i with | none => if O i = false then (match X i with | none => none | some _ => some i) else none | some a => if O i = false then (match X i, X a with | some d, some e => if d < e then some i else some a | _, _ => some a) else some a) = dPk X O i
          rw [z1, ex]
          cases dPk X O i <;> rfl
        | some x =>
          have ei := hA.some h7 ex
          have hx := hB i x ex
          refine pa_aload_n (pc' := 83) dX12_layDays_82 hl0 rfl ?_
          refine pa_getR (pc' := 86) (n := 39) (r := 205) dX12_layDays_83 fl_12_38 s196 (by decide) r24 rfl ?_
          refine pa_iload (pc' := 88) dX12_layDays_86 hl6 rfl ?_
          refine pa_iald (pc' := 89) dX12_layDays_88 s205 rfl (fun _ => ?_)
          rw [nI_clamp (by omega), ei]
          refine pa_ldcw (pc' := 92) dX12_layDays_89 cl_12_341 rfl rfl ?_
          refine pa_icmp_f (pc' := 95) dX12_layDays_92 (zk_lt_ge (b := true) (zj_lt (by rw [nI_toInt (by omega), show (1000000 : Int32).toInt = 1000000 by decide +kernel]; omega))) (by decide) rfl ?_
          refine pa_iload (pc' := 97) dX12_layDays_95 hl5 rfl ?_
          cases ep : dPk X O i with
          | none =>
            refine pa_if_t (pc' := 117) dX12_layDays_97 (by decide) (by decide) ?_
            refine new ?_
            show (match dPk X O i with | none => if O i = false then (match X i with | none => none | some _ => some i) else none | some a => if O i = false then (match X i, X a with | some d, some e => if d < e then some i else some a | _, _ => some a) else some a) = some i
            rw [z1, ex, ep]
            rfl
          | some q =>
            obtain ⟨q1, q2, y, q3, -⟩ := dPk_at i q ep
            have eq := hA.some (i := q) (by omega) q3
            have hy := hB q y q3
            rw [ep] at hl5 old
            have hl5 : zget ls 5 = some (.inl (nI q)) := hl5
            have dp : dPk X O (i + 1) = if x < y then some i else some q := by
              show (match dPk X O i with | none => if O i = false then (match X i with | none => none | some _ => some i) else none | some a => if O i = false then (match X i, X a with | some d, some e => if d < e then some i else some a | _, _ => some a) else some a) = _
              rw [z1, ep]
              dsimp only
              rw [ex, q3]
              rfl
            show zPn (N + 1) none d mX12_layDays (97, ls, [.inl (nI q)], g) Q
            refine pa_if_f (pc' := 100) dX12_layDays_97 (zj_nlt (by rw [nI_toInt (by omega), show (0 : Int32).toInt = 0 by decide]; omega)) (by decide) rfl ?_
            refine pa_aload_n (pc' := 101) dX12_layDays_100 hl0 rfl ?_
            refine pa_getR (pc' := 104) (n := 39) (r := 205) dX12_layDays_101 fl_12_38 s196 (by decide) r24 rfl ?_
            refine pa_iload (pc' := 106) dX12_layDays_104 hl6 rfl ?_
            refine pa_iald (pc' := 107) dX12_layDays_106 s205 rfl (fun _ => ?_)
            rw [nI_clamp (by omega), ei]
            refine pa_aload_n (pc' := 108) dX12_layDays_107 hl0 rfl ?_
            refine pa_getR (pc' := 111) (n := 39) (r := 205) dX12_layDays_108 fl_12_38 s196 (by decide) r24 rfl ?_
            refine pa_iload (pc' := 113) dX12_layDays_111 hl5 rfl ?_
            refine pa_iald (pc' := 114) dX12_layDays_113 s205 rfl (fun _ => ?_)
            rw [nI_clamp (by omega), eq]
            by_cases z : x < y
            · refine pa_icmp_f (pc' := 117) dX12_layDays_114 (zk_lt_ge (b := true) (zj_lt (by rw [nI_toInt (by omega), nI_toInt (by omega)]; omega))) (by decide) rfl ?_
              exact new (by rw [dp, if_pos z])
            · refine pa_icmp_t (pc' := 121) dX12_layDays_114 (zk_lt_ge (b := false) (zj_nlt (by rw [nI_toInt (by omega), nI_toInt (by omega)]; omega))) (by decide) ?_
              exact old (by rw [dp, if_neg z])
end LAY
/-! the reference: all first days, the loops -/
section LAZ
variable {d N n W B k i fm x0 at1 x : Nat} {h g : zH} {a b dy : Nat → Nat} {op : Nat → Int32} {kd cl : Int32} {X : gX} {O : Nat → Bool} {G : gW}
theorem okW_c (hc : kd ≠ 0 ∨ at1 = fm) (ncl : clB cl k = false) : dSt (gD W a b (fun _ => true) kd op dy) at1 k X = dSt (gD W a b (okW cl kd a b fm) kd op dy) at1 k X := by
  cases e : okW cl kd a b fm k with
  | true =>
    unfold dSt
    rw [show (gD W a b (okW cl kd a b fm) kd op dy).2.2.2.1 k = true from e]
    rfl
  | false =>
    unfold okW at e
    rw [ncl] at e
    simp only [Bool.not_false, Bool.true_and, Bool.or_eq_false_iff, decide_eq_false_iff_not] at e
    obtain ⟨e1, e2, e3⟩ := e
    have hc : at1 = fm := hc.elim (fun z => absurd z e1) id
    subst hc
    have lhs : dSt (gD W a b (fun _ => true) kd op dy) at1 k X = X := by
      unfold dSt
      rw [show (gD W a b (fun _ => true) kd op dy).2.2.2.1 k = true from rfl, if_pos rfl]
      show (if a k = at1 then _ else if b k = at1 then _ else X) = X
      rw [if_neg e2, if_neg e3]
    rw [lhs]
    unfold dSt
    rw [show (gD W a b (okW cl kd a b at1) kd op dy).2.2.2.1 k = okW cl kd a b at1 k from rfl]
    have e : okW cl kd a b at1 k = false := by
      unfold okW
      rw [decide_eq_false e1, decide_eq_false e2, decide_eq_false e3]
      simp
    rw [e, if_neg (by decide)]
theorem okW_n (hcl : clB cl k = true) : dSt (gD W a b (okW cl kd a b fm) kd op dy) at1 k X = X := by
  unfold dSt
  have e : okW cl kd a b fm k = false := by
    unfold okW
    rw [hcl]
    rfl
  rw [show (gD W a b (okW cl kd a b fm) kd op dy).2.2.2.1 k = false from e, if_neg (by decide)]
theorem dSt_M (hB : gM X B) (hT : ∀ x, G.2.2.2.2 k x ≤ x + 468) : gM (dSt G at1 k X) (B + 468) := by
  have old : gM X (B + 468) := fun q y e => Nat.le_trans (hB q y e) (by omega)
  unfold dSt
  split
  · split
    · exact gGo_M hB hT
    · split
      · exact gGo_M hB hT
      · exact old
  · exact old
theorem dRl_M (hB : gM X B) : ∀ k, (∀ j x, j < k → G.2.2.2.2 j x ≤ x + 468) → gM (dRl G at1 k X) (B + 468 * k)
  | 0, _ => fun i x e => hB i x e
  | k + 1, hT => by
    have := dSt_M (at1 := at1) (k := k) (dRl_M hB k (fun j x hj => hT j x (by omega))) (fun x => hT k x (by omega))
    exact fun i x e => Nat.le_trans (this i x e) (by omega)
theorem gN_ge (hG : gR G) : ∀ t i y, gN G fm x0 t i y → x0 ≤ y
  | 0, i, y, h => by rw [h.2]; exact Nat.le_refl _
  | t + 1, i, y, h => by
    rcases h with h | ⟨j, z, k, h, -, rfl⟩
    · exact gN_ge hG t i y h
    · have := gN_ge hG t j z h
      have := hG.2 k z
      omega
theorem gS_ge (hG : gR G) (hS : gS G fm x0 X) {y : Nat} (e : X i = some y) : x0 ≤ y := by
  obtain ⟨t, ht⟩ := hS i y e
  exact gN_ge hG t i y ht
theorem dRl_S (hG : gR G) (hS : gS G fm x0 X) (ex : X at1 = some x) : gS G fm x0 (dRl G at1 G.1 X) := fun i y e => by
  rcases dRl_fr hG ex G.1 (Nat.le_refl _) e with z | ⟨k, hE, z⟩
  · exact hS i y z
  · obtain ⟨t, ht⟩ := hS at1 x ex
    exact ⟨t + 1, .inr ⟨at1, x, k, ht, hE, z⟩⟩
theorem gGo_ge (hG : gR G) {j y : Nat} (ex : X i = some x) (ey : X j = some y) (hl : y ≤ x) : gGo G k i j X = X := by
  unfold gGo
  rw [ex, ey]
  dsimp only
  have := hG.2 k x
  rw [if_neg (by omega)]
theorem dRl_no (hG : gR (gD W a b (okW cl kd a b fm) kd op dy)) (hkd : kd = 0) (hne : at1 ≠ fm) (e0 : X fm = some x0) (ex : X at1 = some x) (hl : x0 ≤ x) : ∀ k, dRl (gD W a b (okW cl kd a b fm) kd op dy) at1 k X = X
  | 0 => rfl
  | k + 1 => by
    show dSt (gD W a b (okW cl kd a b fm) kd op dy) at1 k (dRl (gD W a b (okW cl kd a b fm) kd op dy) at1 k X) = X
    rw [dRl_no hG hkd hne e0 ex hl k]
    cases e : okW cl kd a b fm k with
    | false =>
      unfold dSt
      rw [show (gD W a b (okW cl kd a b fm) kd op dy).2.2.2.1 k = false from e, if_neg (by decide)]
    | true =>
      have tch : a k = fm ∨ b k = fm := by
        unfold okW at e
        rw [hkd] at e
        simpa using (by simpa using e : _ ∧ _).2
      unfold dSt
      rw [show (gD W a b (okW cl kd a b fm) kd op dy).2.2.2.1 k = true from e, if_pos rfl]
      show (if a k = at1 then gGo (gD W a b (okW cl kd a b fm) kd op dy) k at1 (b k) X else if b k = at1 then gGo (gD W a b (okW cl kd a b fm) kd op dy) k at1 (a k) X else X) = X
      by_cases z : a k = at1
      · rw [if_pos z, tch.resolve_left (fun q => hne (z.symm.trans q))]
        exact gGo_ge hG ex e0 hl
      · rw [if_neg z]
        by_cases z2 : b k = at1
        · rw [if_pos z2, tch.resolve_right (fun q => hne (z2.symm.trans q))]
          exact gGo_ge hG ex e0 hl
        · rw [if_neg z2]
/-- the ways of one island -/
theorem M_lay2 (K : seM n W a b dy op cl h) (hc : kd ≠ 0 ∨ at1 = fm) (hop : ∀ k, k < W → opK (op k)) (hG : gR (gD W a b (okW cl kd a b fm) kd op dy)) (ha : at1 < 7) (hf : fm < 7) (hB : gM X B) (hB2 : B ≤ 800000) (ex : X at1 = some x) {t : Nat} {Q : Option zV → zH → Prop} (nx : ∀ (N : Nat) (ls : zL) (g : zH), gF 205 h g → gA 1000000 205 (dRl (gD W a b (okW cl kd a b fm) kd op dy) at1 W X) g → zget ls 0 = some (.inr (.inr (some 196))) → zget ls 1 = some (.inl kd) → zget ls 2 = some (.inl (nI fm)) → zget ls 4 = some (.inl (nI t)) → zPn N none d mX12_layDays (189, ls, [], g) Q) : ∀ (N k : Nat) (ls : zL) (g : zH), k ≤ W → gF 205 h g → gA 1000000 205 (dRl (gD W a b (okW cl kd a b fm) kd op dy) at1 k X) g → zget ls 0 = some (.inr (.inr (some 196))) → zget ls 1 = some (.inl kd) → zget ls 2 = some (.inl (nI fm)) → zget ls 4 = some (.inl (nI t)) → zget ls 5 = some (.inl (nI at1)) → zget ls 6 = some (.inl (nI k)) → zPn N none d mX12_layDays (144, ls, [], g) Q := by
  intro N
  have hW := K.2.2.1
  have hT : ∀ j x, j < W → (gD W a b (okW cl kd a b fm) kd op dy).2.2.2.2 j x ≤ x + 468 := fun j x hj => gT_hi (K.2.2.2.2.2 j hj).2.2.2.2.2.2
  induction N with
  | zero => intros; exact zPn.zero
  | succ N ih =>
    intro k ls g hk hF hA hl0 hl1 hl2 hl4 hl5 hl6
    have K2 := K.fr hF.f2
    have s196 := sh_196' K2.1
    have s199 : zsh g 199 = some (14, 363) := zsh_by K2.1 (by decide +kernel)
    obtain ⟨r15, r17, r24, r25⟩ := K2.2.2.2.1
    have e5 := K2.2.2.2.2.1.2.1
    refine pa_iload (pc' := 146) dX12_layDays_144 hl6 rfl ?_
    refine pa_aload_n (pc' := 147) dX12_layDays_146 hl0 rfl ?_
    refine pa_getR (pc' := 150) (n := 39) (r := 199) dX12_layDays_147 fl_12_20 s196 (by decide) r15 rfl ?_
    refine pa_iconst (v := nI 5) (pc' := 151) dX12_layDays_150 (by decide) rfl ?_
    refine pa_iald (pc' := 152) dX12_layDays_151 s199 rfl (fun _ => ?_)
    rw [nI_clamp (by omega), e5]
    refine pa_icmp (pc' := 189) (pc2 := 155) dX12_layDays_152 (by decide) rfl (fun w => ?_) (fun w => ?_)
    · have w := zi_nlt (zk_ge_lt w)
      rw [nI_toInt (by omega), nI_toInt (by omega)] at w
      have e : k = W := by omega
      rw [e] at hA
      exact nx _ ls g hF hA hl0 hl1 hl2 hl4
    · have w := zi_lt (zk_ge_lt w)
      rw [nI_toInt (by omega), nI_toInt (by omega)] at w
      have step : ∀ (g' : zH), gF 205 h g' → gA 1000000 205 (dSt (gD W a b (okW cl kd a b fm) kd op dy) at1 k (dRl (gD W a b (okW cl kd a b fm) kd op dy) at1 k X)) g' → zPn (N + 1) none d mX12_layDays (183, ls, [], g') Q := fun g' hF' hA' => by
        refine pa_iinc (pc' := 186) (v := nI (k + 1)) dX12_layDays_183 hl6 (by decide) (nI_add k 1) rfl rfl ?_
        refine pa_gotos (pc' := 144) dX12_layDays_186 (by decide) ?_
        exact ih (k + 1) _ g' (by omega) hF' hA' (zget_s1 hl0 (by decide) (by simp [zcat])) (zget_s1 hl1 (by decide) (by simp [zcat])) (zget_s1 hl2 (by decide) (by simp [zcat])) (zget_s1 hl4 (by decide) (by simp [zcat])) (zget_s1 hl5 (by decide) (by simp [zcat])) zget_s1e
      have main : zPn (N + 1) none d mX12_layDays (165, ls, [], g) Q := by
        refine pa_aload_n (pc' := 166) dX12_layDays_165 hl0 rfl ?_
        refine pa_iload (pc' := 168) dX12_layDays_166 hl6 rfl ?_
        refine pa_callv (pc' := 171) (vs := [.inl (nI k)]) (rest := []) dX12_layDays_168 ml_12_302 (by decide) rfl rfl rfl (fun d' _ => M_isClosed K2) (fun v g9 hq => ?_)
        obtain ⟨ev, eh⟩ := hq
        subst ev
        rw [eh]
        show zPn (N + 1) none d mX12_layDays (171, _, [.inl (if clB cl k = true then 1 else 0)], g) _
        by_cases z : clB cl k = true
        · rw [if_pos z]
          refine pa_if_t (pc' := 183) dX12_layDays_171 (by decide) (by decide) ?_
          refine step g hF ?_
          rw [okW_n z]
          exact hA
        · rw [if_neg z]
          have z := Bool.eq_false_iff.mpr z
          refine pa_if_f (pc' := 174) dX12_layDays_171 (by decide) (by decide) rfl ?_
          refine pa_aload_n (pc' := 175) dX12_layDays_174 hl0 rfl ?_
          refine pa_iload (pc' := 177) dX12_layDays_175 hl6 rfl ?_
          refine pa_iload_n (pc' := 178) dX12_layDays_177 hl1 rfl ?_
          refine pa_iload (pc' := 180) dX12_layDays_178 hl5 rfl ?_
          have hx := dRl_old (G := gD W a b (okW cl kd a b fm) kd op dy) hG ex ex (Nat.le_refl x) k
          have hM := dRl_M (at1 := at1) hB k (fun j x hj => hT j x (by omega))
          refine pa_callv (pc' := 183) (vs := [.inl (nI k), .inl kd, .inl (nI at1)]) (rest := []) dX12_layDays_180 ml_12_342 (by decide) rfl rfl rfl (fun d' _ => M_goesBy (ok := fun _ => true) K2 (show k < W by omega) rfl (hop k (by omega)) ha hA hM (by omega) hx) (fun v g2 hq => ?_)
          obtain ⟨ev, f2, a2⟩ := hq
          subst ev
          rw [okW_c hc z] at a2
          exact step g2 (hF.tr f2) a2
      refine pa_iload_n (pc' := 156) dX12_layDays_155 hl1 rfl ?_
      by_cases z : kd = 0
      · have hc : at1 = fm := hc.elim (fun q => absurd z q) id
        refine pa_if_f (pc' := 159) dX12_layDays_156 (decide_eq_false (not_not_intro z)) (by decide) rfl ?_
        refine pa_iload (pc' := 161) dX12_layDays_159 hl5 rfl ?_
        refine pa_iload_n (pc' := 162) dX12_layDays_161 hl2 rfl ?_
        refine pa_icmp_f (pc' := 165) dX12_layDays_162 (decide_eq_false (not_not_intro (by rw [hc]))) (by decide) rfl ?_
        exact main
      · refine pa_if_t (pc' := 165) dX12_layDays_156 (decide_eq_true z) (by decide) ?_
        exact main
end LAZ
/-! the reference: all first days, from end to end -/
def arV (X : gX) (i : Nat) : Int32 := match X i with | some x => nI x | none => -2
section LA3
variable {d N n W B k i fm x0 at1 x to c : Nat} {h g : zH} {a b dy : Nat → Nat} {op : Nat → Int32} {kd cl : Int32} {X : gX} {O : Nat → Bool} {G : gW}
theorem M_lay3 (K : seM n W a b dy op cl h) (hop : ∀ k, k < W → opK (op k)) (hG : gR (gD W a b (okW cl kd a b fm) kd op dy)) (hf : fm < 7) (hx : x0 ≤ 700000) : ∀ (f t N : Nat) (ls : zL) (g : zH) (X : gX) (O : Nat → Bool), t + f = n → gF2 h g → gA 1000000 205 X g → gOv O g → gM X (x0 + 5616 * t) → gS (gD W a b (okW cl kd a b fm) kd op dy) fm x0 X → X fm = some x0 → zget ls 0 = some (.inr (.inr (some 196))) → zget ls 1 = some (.inl kd) → zget ls 2 = some (.inl (nI fm)) → zget ls 4 = some (.inl (nI t)) → zPn N none d mX12_layDays (44, ls, [], g) (laR (dLp (gD W a b (okW cl kd a b fm) kd op dy) n f X O) h) := by
  intro f
  induction f with
  | zero =>
    intro t N ls g X O ht hF hA hO hB hS h0 hl0 hl1 hl2 hl4
    have K2 := K.fr hF
    have hn := K.2.1
    have s196 := sh_196' K2.1
    have s199 : zsh g 199 = some (14, 363) := zsh_by K2.1 (by decide +kernel)
    obtain ⟨r15, r17, r24, r25⟩ := K2.2.2.2.1
    have e4 := K2.2.2.2.2.1.1
    refine pa_iload (pc' := 46) dX12_layDays_44 hl4 rfl ?_
    refine pa_aload_n (pc' := 47) dX12_layDays_46 hl0 rfl ?_
    refine pa_getR (pc' := 50) (n := 39) (r := 199) dX12_layDays_47 fl_12_20 s196 (by decide) r15 rfl ?_
    refine pa_iconst (v := nI 4) (pc' := 51) dX12_layDays_50 (by decide) rfl ?_
    refine pa_iald (pc' := 52) dX12_layDays_51 s199 rfl (fun _ => ?_)
    rw [nI_clamp (by omega), e4]
    refine pa_icmp_t (pc' := 195) dX12_layDays_52 (zk_lt_ge (b := false) (zj_nlt (by rw [nI_toInt (by omega), nI_toInt (by omega)]; omega))) (by decide) ?_
    refine pa_vret dX12_layDays_195 rfl ?_
    exact ⟨rfl, hF, hA⟩
  | succ f ih =>
    intro t N ls g X O ht hF hA hO hB hS h0 hl0 hl1 hl2 hl4
    have K2 := K.fr hF
    have hn := K.2.1
    have hW := K.2.2.1
    have s196 := sh_196' K2.1
    have s199 : zsh g 199 = some (14, 363) := zsh_by K2.1 (by decide +kernel)
    have s206 : zsh g 206 = some (14, 7) := zsh_by K2.1 (by decide +kernel)
    obtain ⟨r15, r17, r24, r25⟩ := K2.2.2.2.1
    have e4 := K2.2.2.2.2.1.1
    have hT : ∀ j x, j < W → (gD W a b (okW cl kd a b fm) kd op dy).2.2.2.2 j x ≤ x + 468 := fun j x hj => gT_hi (K.2.2.2.2.2 j hj).2.2.2.2.2.2
    refine pa_iload (pc' := 46) dX12_layDays_44 hl4 rfl ?_
    refine pa_aload_n (pc' := 47) dX12_layDays_46 hl0 rfl ?_
    refine pa_getR (pc' := 50) (n := 39) (r := 199) dX12_layDays_47 fl_12_20 s196 (by decide) r15 rfl ?_
    refine pa_iconst (v := nI 4) (pc' := 51) dX12_layDays_50 (by decide) rfl ?_
    refine pa_iald (pc' := 52) dX12_layDays_51 s199 rfl (fun _ => ?_)
    rw [nI_clamp (by omega), e4]
    refine pa_icmp_f (pc' := 55) dX12_layDays_52 (zk_lt_ge (b := true) (zj_lt (by rw [nI_toInt (by omega), nI_toInt (by omega)]; omega))) (by decide) rfl ?_
    refine pa_iconst (v := (-1)) (pc' := 56) dX12_layDays_55 (by decide) rfl ?_
    refine pa_istore (pc' := 58) dX12_layDays_56 (by decide) rfl rfl ?_
    refine pa_iconst (v := nI 0) (pc' := 59) dX12_layDays_58 (by decide) rfl ?_
    refine pa_istore (pc' := 61) dX12_layDays_59 (by decide) rfl rfl ?_
    refine M_lay1 K2 hA hO hB (by omega) (fun N ls hl0 hl1 hl2 hl4 hl5 => ?_) _ 0 _ (Nat.zero_le _) (zget_s1 (zget_s1 hl0 (by decide) (by simp [zcat])) (by decide) (by simp [zcat])) (zget_s1 (zget_s1 hl1 (by decide) (by simp [zcat])) (by decide) (by simp [zcat])) (zget_s1 (zget_s1 hl2 (by decide) (by simp [zcat])) (by decide) (by simp [zcat])) (zget_s1 (zget_s1 hl4 (by decide) (by simp [zcat])) (by decide) (by simp [zcat])) (zget_s1 zget_s1e (by decide) (by simp [zcat])) zget_s1e
    cases hp : dPk X O n with
    | none =>
      rw [hp] at hl5
      have e : dLp (gD W a b (okW cl kd a b fm) kd op dy) n (f + 1) X O = X := by
        unfold dLp
        rw [hp]
      rw [e]
      refine pa_iload (pc' := 129) dX12_layDays_127 hl5 rfl ?_
      refine pa_if_f (pc' := 132) dX12_layDays_129 (by decide) (by decide) rfl ?_
      refine pa_vret dX12_layDays_132 rfl ?_
      exact ⟨rfl, hF, hA⟩
    | some at1 =>
      obtain ⟨q1, q2, x, ex, -⟩ := dPk_at n at1 hp
      rw [hp] at hl5
      have hl5 : zget ls 5 = some (.inl (nI at1)) := hl5
      have hxx := gS_ge hG hS ex
      have e : dLp (gD W a b (okW cl kd a b fm) kd op dy) n (f + 1) X O = dLp (gD W a b (okW cl kd a b fm) kd op dy) n f (dRl (gD W a b (okW cl kd a b fm) kd op dy) at1 W X) (upA O at1 true) := by
        show (match dPk X O n with | none => X | some a => dLp (gD W _ b (okW cl kd _ b fm) kd op dy) n f (dRl _ a _ X) (upA O a true)) = _
        rw [hp]
        rfl
      rw [e]
      have nxt : ∀ (N : Nat) (ls : zL) (g' : zH), gF2 h g' → gA 1000000 205 (dRl (gD W a b (okW cl kd a b fm) kd op dy) at1 W X) g' → gOv (upA O at1 true) g' → zget ls 0 = some (.inr (.inr (some 196))) → zget ls 1 = some (.inl kd) → zget ls 2 = some (.inl (nI fm)) → zget ls 4 = some (.inl (nI t)) → zPn N none d mX12_layDays (189, ls, [], g') (laR (dLp (gD W a b (okW cl kd a b fm) kd op dy) n f (dRl (gD W a b (okW cl kd a b fm) kd op dy) at1 W X) (upA O at1 true)) h) := by
        intro N ls g' F' A' O' l0 l1 l2 l4
        cases N with
        | zero => exact zPn.zero
        | succ N =>
          refine pa_iinc (pc' := 192) (v := nI (t + 1)) dX12_layDays_189 l4 (by decide) (nI_add t 1) rfl rfl ?_
          refine pa_gotos (pc' := 44) dX12_layDays_192 (by decide) ?_
          have hM := dRl_M (at1 := at1) hB W hT
          refine ih (t + 1) N _ g' _ _ (by omega) F' A' O' (fun i y e => ?_) (dRl_S hG hS ex) (dRl_old hG ex h0 hxx W) (zget_s1 l0 (by decide) (by simp [zcat])) (zget_s1 l1 (by decide) (by simp [zcat])) (zget_s1 l2 (by decide) (by simp [zcat])) zget_s1e
          have := hM i y e
          omega
      refine pa_iload (pc' := 129) dX12_layDays_127 hl5 rfl ?_
      refine pa_if_t (pc' := 133) dX12_layDays_129 (zk_lt_ge (b := false) (zj_nlt (by rw [nI_toInt (by omega), show (0 : Int32).toInt = 0 by decide]; omega))) (by decide) ?_
      refine pa_aload_n (pc' := 134) dX12_layDays_133 hl0 rfl ?_
      refine pa_getR (pc' := 137) (n := 39) (r := 206) dX12_layDays_134 fl_12_41 s196 (by decide) r25 rfl ?_
      refine pa_iload (pc' := 139) dX12_layDays_137 hl5 rfl ?_
      refine pa_iconst (v := 1) (pc' := 140) dX12_layDays_139 (by decide) rfl ?_
      refine pa_iast (pc' := 141) dX12_layDays_140 s206 rfl (fun _ => ?_)
      rw [nI_clamp (by omega)]
      refine pa_iconst (v := nI 0) (pc' := 142) dX12_layDays_141 (by decide) rfl ?_
      refine pa_istore (pc' := 144) dX12_layDays_142 (by decide) rfl rfl ?_
      have F1 : gF2 h (zsI g 206 at1 1) := hF.tr gF2.st6
      have A1 : gA 1000000 205 X (zsI g 206 at1 1) := hA.f6
      have O1 : gOv (upA O at1 true) (zsI g 206 at1 1) := hO.up
      have K3 := K.fr F1
      by_cases z : kd ≠ 0 ∨ at1 = fm
      · exact M_lay2 K3 z hop hG (by omega) hf hB (by omega) ex (fun N ls g' f' a' l0 l1 l2 l4 => nxt N ls g' (F1.tr f'.f2) a' (O1.fr f') l0 l1 l2 l4) _ 0 _ _ (Nat.zero_le _) gF.rf A1 (zget_s1 hl0 (by decide) (by simp [zcat])) (zget_s1 hl1 (by decide) (by simp [zcat])) (zget_s1 hl2 (by decide) (by simp [zcat])) (zget_s1 hl4 (by decide) (by simp [zcat])) (zget_s1 hl5 (by decide) (by simp [zcat])) zget_s1e
      · have z0 : kd = 0 := Decidable.not_not.mp (fun q => z (.inl q))
        have z1 : at1 ≠ fm := fun q => z (.inr q)
        have s196 : zsh (zsI g 206 at1 1) 196 = some (12, 39) := s196
        have s199 : zsh (zsI g 206 at1 1) 199 = some (14, 363) := s199
        have r15 : (zsI g 206 at1 1).2.2.2.1 196 15 = some 199 := r15
        have e5 := K3.2.2.2.2.1.2.1
        have A2 : gA 1000000 205 (dRl (gD W a b (okW cl kd a b fm) kd op dy) at1 W X) (zsI g 206 at1 1) := by
          rw [dRl_no hG z0 z1 h0 ex hxx W]
          exact A1
        refine pa_iload (pc' := 146) dX12_layDays_144 zget_s1e rfl ?_
        refine pa_aload_n (pc' := 147) dX12_layDays_146 (zget_s1 hl0 (by decide) (by simp [zcat])) rfl ?_
        refine pa_getR (pc' := 150) (n := 39) (r := 199) dX12_layDays_147 fl_12_20 s196 (by decide) r15 rfl ?_
        refine pa_iconst (v := nI 5) (pc' := 151) dX12_layDays_150 (by decide) rfl ?_
        refine pa_iald (pc' := 152) dX12_layDays_151 s199 rfl (fun _ => ?_)
        rw [nI_clamp (by omega), e5]
        refine pa_icmp (pc' := 189) (pc2 := 155) dX12_layDays_152 (by decide) rfl (fun w => ?_) (fun w => ?_)
        · exact nxt _ _ _ F1 A2 O1 (zget_s1 hl0 (by decide) (by simp [zcat])) (zget_s1 hl1 (by decide) (by simp [zcat])) (zget_s1 hl2 (by decide) (by simp [zcat])) (zget_s1 hl4 (by decide) (by simp [zcat]))
        · refine pa_iload_n (pc' := 156) dX12_layDays_155 (zget_s1 hl1 (by decide) (by simp [zcat])) rfl ?_
          refine pa_if_f (pc' := 159) dX12_layDays_156 (decide_eq_false (not_not_intro z0)) (by decide) rfl ?_
          refine pa_iload (pc' := 161) dX12_layDays_159 (zget_s1 hl5 (by decide) (by simp [zcat])) rfl ?_
          refine pa_iload_n (pc' := 162) dX12_layDays_161 (zget_s1 hl2 (by decide) (by simp [zcat])) rfl ?_
          refine pa_icmp_t (pc' := 189) dX12_layDays_162 (decide_eq_true (fun q => z1 (by have := congrArg Int32.toInt q; rw [nI_toInt (by omega), nI_toInt (by omega)] at this; omega))) (by decide) ?_
          exact nxt _ _ _ F1 A2 O1 (zget_s1 hl0 (by decide) (by simp [zcat])) (zget_s1 hl1 (by decide) (by simp [zcat])) (zget_s1 hl2 (by decide) (by simp [zcat])) (zget_s1 hl4 (by decide) (by simp [zcat]))
theorem gB_at : gB fm x0 fm = some x0 := by
  unfold gB
  rw [upA_at, if_pos rfl]
theorem M_layDays (K : seM n W a b dy op cl h) (hop : ∀ k, k < W → opK (op k)) (hG : gR (gD W a b (okW cl kd a b fm) kd op dy)) (hf : fm < 7) (hx : x0 ≤ 700000) : zPa d mX12_layDays [.inr (.inr (some 196)), .inl kd, .inl (nI fm), .inl (nI x0)] h (laR (dLp (gD W a b (okW cl kd a b fm) kd op dy) n n (gB fm x0) (fun _ => false)) h) := by
  intro N
  show zPn N none d mX12_layDays (0, [(0, .inr (.inr (some 196))), (1, .inl kd), (2, .inl (nI fm)), (3, .inl (nI x0))], [], h) _
  refine pa_iconst (v := nI 0) (pc' := 1) dX12_layDays_0 (by decide) rfl ?_
  refine pa_istore (pc' := 3) dX12_layDays_1 (by decide) rfl rfl ?_
  refine M_lay0 K (fun N ls g F A O l0 l1 l2 l3 => ?_) N 0 _ h (Nat.zero_le _) gF2.rf (fun j hj => absurd hj (Nat.not_lt_zero j)) rfl rfl rfl rfl rfl
  have K2 := K.fr F
  have s196 := sh_196' K2.1
  have s205 : zsh g 205 = some (14, 7) := zsh_by K2.1 (by decide +kernel)
  have r24 := K2.2.2.2.1.2.2.1
  refine pa_aload_n (pc' := 35) dX12_layDays_34 l0 rfl ?_
  refine pa_getR (pc' := 38) (n := 39) (r := 205) dX12_layDays_35 fl_12_38 s196 (by decide) r24 rfl ?_
  refine pa_iload_n (pc' := 39) dX12_layDays_38 l2 rfl ?_
  refine pa_iload_n (pc' := 40) dX12_layDays_39 l3 rfl ?_
  refine pa_iast (pc' := 41) dX12_layDays_40 s205 rfl (fun _ => ?_)
  rw [nI_clamp (by omega)]
  refine pa_iconst (v := nI 0) (pc' := 42) dX12_layDays_41 (by decide) rfl ?_
  refine pa_istore (pc' := 44) dX12_layDays_42 (by decide) rfl rfl ?_
  have A1 : gA 1000000 205 (gB fm x0) (zsI g 205 fm (nI x0)) := by
    unfold gB
    exact A.up
  exact M_lay3 K hop hG hf hx n 0 _ _ _ (gB fm x0) (fun _ => false) (by omega) (F.tr gF2.st5) A1 O.f5 (fun i y e => Nat.le_trans (gB_M i y e) (Nat.le_add_right _ _)) gB_S gB_at (zget_s1 l0 (by decide) (by simp [zcat])) (zget_s1 l1 (by decide) (by simp [zcat])) (zget_s1 l2 (by decide) (by simp [zcat])) zget_s1e
theorem dLp_M (hT : ∀ j x, j < G.1 → G.2.2.2.2 j x ≤ x + 468) (hW : G.1 ≤ 12) : ∀ (f : Nat) (X : gX) (O : Nat → Bool) (B : Nat), gM X B → gM (dLp G n f X O) (B + 5616 * f)
  | 0, X, O, B, hB => hB
  | f + 1, X, O, B, hB => by
    show gM (match dPk X O n with | none => X | some a => dLp G n f (dRl G a G.1 X) (upA O a true)) (B + 5616 * (f + 1))
    cases dPk X O n with
    | none => exact fun i x e => Nat.le_trans (hB i x e) (Nat.le_add_right _ _)
    | some a =>
      have h1 := dLp_M hT hW f _ (upA O a true) _ (dRl_M (at1 := a) hB G.1 hT)
      intro i x e
      have := h1 i x e
      omega
theorem arV_lt (hB : gM X 900000) : arV X i = -2 ∨ ∃ x, x ≤ 900000 ∧ X i = some x ∧ arV X i = nI x := by
  unfold arV
  cases e : X i with
  | none => exact .inl rfl
  | some x => exact .inr ⟨x, hB i x e, rfl, rfl⟩
theorem M_arrivalOf (K : seM n W a b dy op cl h) (hop : ∀ k, k < W → opK (op k)) (hG : gR (gD W a b (okW cl kd a b fm) kd op dy)) (hf : fm < 7) (hto : to < 7) (hx : x0 ≤ 700000) : zPa d mX12_arrivalOf [.inr (.inr (some 196)), .inl kd, .inl (nI fm), .inl (nI to), .inl (nI x0)] h (fun v g => v = some (.inl (arV (dLp (gD W a b (okW cl kd a b fm) kd op dy) n n (gB fm x0) (fun _ => false)) to)) ∧ gF2 h g ∧ gA 1000000 205 (dLp (gD W a b (okW cl kd a b fm) kd op dy) n n (gB fm x0) (fun _ => false)) g) := by
  intro N
  have hn := K.2.1
  have hM : gM (dLp (gD W a b (okW cl kd a b fm) kd op dy) n n (gB fm x0) (fun _ => false)) (x0 + 5616 * n) := dLp_M (fun j x hj => gT_hi (K.2.2.2.2.2 j hj).2.2.2.2.2.2) K.2.2.1 n _ _ x0 gB_M
  generalize eD : dLp (gD W a b (okW cl kd a b fm) kd op dy) n n (gB fm x0) (fun _ => false) = D at hM ⊢
  have lay : ∀ d, zPa d mX12_layDays [.inr (.inr (some 196)), .inl kd, .inl (nI fm), .inl (nI x0)] h (laR D h) := fun d => by
    rw [← eD]
    exact M_layDays K hop hG hf hx
  show zPn N none d mX12_arrivalOf (0, [(0, .inr (.inr (some 196))), (1, .inl kd), (2, .inl (nI fm)), (3, .inl (nI to)), (4, .inl (nI x0))], [], h) _
  refine pa_aload_n (pc' := 1) dX12_arrivalOf_0 rfl rfl ?_
  refine pa_iload_n (pc' := 2) dX12_arrivalOf_1 rfl rfl ?_
  refine pa_iload_n (pc' := 3) dX12_arrivalOf_2 rfl rfl ?_
  refine pa_iload (pc' := 5) dX12_arrivalOf_3 rfl rfl ?_
  refine pa_callv (pc' := 8) (vs := [.inl kd, .inl (nI fm), .inl (nI x0)]) (rest := []) dX12_arrivalOf_5 ml_12_349 (by decide) rfl rfl rfl (fun d' _ => lay d') (fun v g hq => ?_)
  obtain ⟨ev, eh⟩ := hq
  subst ev
  show zPn N none d mX12_arrivalOf (8, _, [], g) _
  obtain ⟨f1, a1⟩ := eh
  have K2 := K.fr f1
  have s196 := sh_196' K2.1
  have s205 : zsh g 205 = some (14, 7) := zsh_by K2.1 (by decide +kernel)
  have r24 := K2.2.2.2.1.2.2.1
  cases et : D to with
  | none =>
    have e := a1.none hto et
    refine pa_aload_n (pc' := 9) dX12_arrivalOf_8 rfl rfl ?_
    refine pa_getR (pc' := 12) (n := 39) (r := 205) dX12_arrivalOf_9 fl_12_38 s196 (by decide) r24 rfl ?_
    refine pa_iload_n (pc' := 13) dX12_arrivalOf_12 rfl rfl ?_
    refine pa_iald (pc' := 14) dX12_arrivalOf_13 s205 rfl (fun _ => ?_)
    rw [nI_clamp (by omega), e]
    refine pa_ldcw (pc' := 17) dX12_arrivalOf_14 cl_12_341 rfl rfl ?_
    refine pa_icmp_f (pc' := 20) dX12_arrivalOf_17 (by decide +kernel) (by decide) rfl ?_
    refine pa_bipush (v := (-2)) (pc' := 22) dX12_arrivalOf_20 (by decide) rfl ?_
    refine pa_goto (pc' := 31) dX12_arrivalOf_22 (by decide) ?_
    refine pa_iret dX12_arrivalOf_31 rfl rfl ?_
    exact ⟨by unfold arV; rw [et], f1, a1⟩
  | some x =>
    have e := a1.some hto et
    have hx := hM to x et
    refine pa_aload_n (pc' := 9) dX12_arrivalOf_8 rfl rfl ?_
    refine pa_getR (pc' := 12) (n := 39) (r := 205) dX12_arrivalOf_9 fl_12_38 s196 (by decide) r24 rfl ?_
    refine pa_iload_n (pc' := 13) dX12_arrivalOf_12 rfl rfl ?_
    refine pa_iald (pc' := 14) dX12_arrivalOf_13 s205 rfl (fun _ => ?_)
    rw [nI_clamp (by omega), e]
    refine pa_ldcw (pc' := 17) dX12_arrivalOf_14 cl_12_341 rfl rfl ?_
    refine pa_icmp_t (pc' := 25) dX12_arrivalOf_17 (decide_eq_true (fun q => by have := congrArg Int32.toInt q; rw [nI_toInt (by omega), show (1000000 : Int32).toInt = 1000000 by decide +kernel] at this; omega)) (by decide) ?_
    refine pa_aload_n (pc' := 26) dX12_arrivalOf_25 rfl rfl ?_
    refine pa_getR (pc' := 29) (n := 39) (r := 205) dX12_arrivalOf_26 fl_12_38 s196 (by decide) r24 rfl ?_
    refine pa_iload_n (pc' := 30) dX12_arrivalOf_29 rfl rfl ?_
    refine pa_iald (pc' := 31) dX12_arrivalOf_30 s205 rfl (fun _ => ?_)
    rw [nI_clamp (by omega), e]
    refine pa_iret dX12_arrivalOf_31 rfl rfl ?_
    exact ⟨by unfold arV; rw [et], f1, a1⟩
/-! the class -/
theorem N_firstDayAt (K : seC c W a b dy op h) (hcl : h.2.1 86 1 = cl) (hn : h.2.1 c 4 = nI n) (hn7 : n ≤ 7) (hf : fm < 7) (hto : to < 7) (hx : x0 ≤ 700000) (hG : gR (gD W a b (okW cl kd a b fm) kd op dy)) : zPa d mX6_firstDayAt [.inr (.inr (some 94)), .inl kd, .inl (nI fm), .inl (nI to), .inl (nI x0)] h (fun v g => v = some (.inl (arV (gIt (gD W a b (okW cl kd a b fm) kd op dy) (if kd = 0 then 1 else n) (gB fm x0)) to)) ∧ gF 95 h g ∧ gA 1000000000 95 (gIt (gD W a b (okW cl kd a b fm) kd op dy) (if kd = 0 then 1 else n) (gB fm x0)) g) := by
  intro N
  have hM : gM (gIt (gD W a b (okW cl kd a b fm) kd op dy) (if kd = 0 then 1 else n) (gB fm x0)) (x0 + 11232 * 7) := fun i x e => by
    have := gIt_M (G := gD W a b (okW cl kd a b fm) kd op dy) K.2.2.1 (fun j x hj => gT_hi (K.2.2.2.2.2 j hj).2.2.2.2.2.2) gB_M (if kd = 0 then 1 else n) i x e
    have : 11232 * (if kd = 0 then 1 else n) ≤ 11232 * 7 := by split <;> omega
    omega
  generalize eD : gIt (gD W a b (okW cl kd a b fm) kd op dy) (if kd = 0 then 1 else n) (gB fm x0) = D at hM ⊢
  have lay : ∀ d, zPa d mX6_findFirstDays [.inr (.inr (some 94)), .inl kd, .inl (nI fm), .inl (nI x0)] h (fun v g => v = none ∧ gF 95 h g ∧ gA 1000000000 95 D g) := fun d => by
    rw [← eD]
    exact N_ffd K hcl hn hn7 hf hx hG
  show zPn N none d mX6_firstDayAt (0, [(0, .inr (.inr (some 94))), (1, .inl kd), (2, .inl (nI fm)), (3, .inl (nI to)), (4, .inl (nI x0))], [], h) _
  refine pa_aload_n (pc' := 1) dX6_firstDayAt_0 rfl rfl ?_
  refine pa_iload_n (pc' := 2) dX6_firstDayAt_1 rfl rfl ?_
  refine pa_iload_n (pc' := 3) dX6_firstDayAt_2 rfl rfl ?_
  refine pa_iload (pc' := 5) dX6_firstDayAt_3 rfl rfl ?_
  refine pa_callv (pc' := 8) (vs := [.inl kd, .inl (nI fm), .inl (nI x0)]) (rest := []) dX6_firstDayAt_5 ml_6_84 (by decide) rfl rfl rfl (fun d' _ => lay d') (fun v g hq => ?_)
  obtain ⟨ev, eh⟩ := hq
  subst ev
  show zPn N none d mX6_firstDayAt (8, _, [], g) _
  obtain ⟨f1, a1⟩ := eh
  have K2 := K.fr f1
  have s94 : zsh g 94 = some (6, 7) := zsh_by K2.1 (by decide +kernel)
  have s95 : zsh g 95 = some (14, 7) := zsh_by K2.1 (by decide +kernel)
  have r3 := K2.2.2.2.1.2.2.1
  cases et : D to with
  | none =>
    have e := a1.none hto et
    refine pa_aload_n (pc' := 9) dX6_firstDayAt_8 rfl rfl ?_
    refine pa_getR (pc' := 12) (n := 7) (r := 95) dX6_firstDayAt_9 fl_6_9 s94 (by decide) r3 rfl ?_
    refine pa_iload_n (pc' := 13) dX6_firstDayAt_12 rfl rfl ?_
    refine pa_iald (pc' := 14) dX6_firstDayAt_13 s95 rfl (fun _ => ?_)
    rw [nI_clamp (by omega), e]
    refine pa_ldc (pc' := 16) dX6_firstDayAt_14 cl_6_37 rfl rfl ?_
    refine pa_icmp_f (pc' := 19) dX6_firstDayAt_16 (by decide +kernel) (by decide) rfl ?_
    refine pa_bipush (v := (-2)) (pc' := 21) dX6_firstDayAt_19 (by decide) rfl ?_
    refine pa_goto (pc' := 30) dX6_firstDayAt_21 (by decide) ?_
    refine pa_iret dX6_firstDayAt_30 rfl rfl ?_
    exact ⟨by unfold arV; rw [et], f1, a1⟩
  | some x =>
    have e := a1.some hto et
    have hx := hM to x et
    refine pa_aload_n (pc' := 9) dX6_firstDayAt_8 rfl rfl ?_
    refine pa_getR (pc' := 12) (n := 7) (r := 95) dX6_firstDayAt_9 fl_6_9 s94 (by decide) r3 rfl ?_
    refine pa_iload_n (pc' := 13) dX6_firstDayAt_12 rfl rfl ?_
    refine pa_iald (pc' := 14) dX6_firstDayAt_13 s95 rfl (fun _ => ?_)
    rw [nI_clamp (by omega), e]
    refine pa_ldc (pc' := 16) dX6_firstDayAt_14 cl_6_37 rfl rfl ?_
    refine pa_icmp_t (pc' := 24) dX6_firstDayAt_16 (decide_eq_true (fun q => by have := congrArg Int32.toInt q; rw [nI_toInt (by omega), show (1000000000 : Int32).toInt = 1000000000 by decide +kernel] at this; omega)) (by decide) ?_
    refine pa_aload_n (pc' := 25) dX6_firstDayAt_24 rfl rfl ?_
    refine pa_getR (pc' := 28) (n := 7) (r := 95) dX6_firstDayAt_25 fl_6_9 s94 (by decide) r3 rfl ?_
    refine pa_iload_n (pc' := 29) dX6_firstDayAt_28 rfl rfl ?_
    refine pa_iald (pc' := 30) dX6_firstDayAt_29 s95 rfl (fun _ => ?_)
    rw [nI_clamp (by omega), e]
    refine pa_iret dX6_firstDayAt_30 rfl rfl ?_
    exact ⟨by unfold arV; rw [et], f1, a1⟩
/-! both are one -/
theorem calf_ok {W : Nat} (hG : gR (gD W a b (okW cl 0 a b fm) 0 op dy)) (hne : ∀ k, k < W → a k ≠ b k ∧ a k < n ∧ b k < n) (hf : fm < n) : gIt (gD W a b (okW cl 0 a b fm) 0 op dy) 1 (gB fm x0) = dLp (gD W a b (okW cl 0 a b fm) 0 op dy) n n (gB fm x0) (fun _ => false) := by
  obtain ⟨dC, dS, d0, -⟩ := dij_ok (G := gD W a b (okW cl 0 a b fm) 0 op dy) (dy := x0) hG hne hf
  have iS := gIt_S (G := gD W a b (okW cl 0 a b fm) 0 op dy) (fr := fm) (dy := x0) (X := gB fm x0) gB_S 1
  obtain ⟨e0, h0, l0⟩ := gTn_le (G := gD W a b (okW cl 0 a b fm) 0 op dy) (X := gB fm x0) W fm x0 gB_at
  have h0 : gIt (gD W a b (okW cl 0 a b fm) 0 op dy) 1 (gB fm x0) fm = some e0 := h0
  refine gX_eq hG (fun k i j x hi hE => ?_) ⟨e0, h0, l0⟩ iS dC ⟨x0, d0, Nat.le_refl _⟩ dS
  obtain ⟨hk, hok, hE⟩ := hE
  have hok2 : okW cl 0 a b fm k = true := hok
  have tch : a k = fm ∨ b k = fm := by
    unfold okW at hok2
    simpa using (by simpa using hok2 : _ ∧ _).2
  have hge := gS_ge hG iS hi
  have back : j = fm → ∃ e, gIt (gD W a b (okW cl 0 a b fm) 0 op dy) 1 (gB fm x0) j = some e ∧ e ≤ (gD W a b (okW cl 0 a b fm) 0 op dy).2.2.2.2 k x := fun q => by
    rw [q]
    have := hG.2 k x
    exact ⟨e0, h0, by omega⟩
  have forth : i = fm → ∃ e, gIt (gD W a b (okW cl 0 a b fm) 0 op dy) 1 (gB fm x0) j = some e ∧ e ≤ (gD W a b (okW cl 0 a b fm) 0 op dy).2.2.2.2 k x := fun q => by
    subst q
    obtain ⟨e, he, le⟩ := gTn_by (G := gD W a b (okW cl 0 a b i) 0 op dy) hG ⟨hk, hok, hE⟩ (gB_at (fm := i) (x0 := x0)) W hk
    exact ⟨e, he, Nat.le_trans le (hG.1 k x0 x hge)⟩
  have hE : (a k = i ∧ b k = j) ∨ (b k = i ∧ a k = j) := hE
  rcases hE with ⟨e1, e2⟩ | ⟨e1, e2⟩
  · rcases tch with q | q
    · exact forth (e1.symm.trans q)
    · exact back (e2.symm.trans q)
  · rcases tch with q | q
    · exact back (e2.symm.trans q)
    · exact forth (e1.symm.trans q)
theorem days_eq {W : Nat} (hG : gR (gD W a b (okW cl kd a b fm) kd op dy)) (hne : ∀ k, k < W → a k ≠ b k ∧ a k < n ∧ b k < n) (hf : fm < n) : gIt (gD W a b (okW cl kd a b fm) kd op dy) (if kd = 0 then 1 else n) (gB fm x0) = dLp (gD W a b (okW cl kd a b fm) kd op dy) n n (gB fm x0) (fun _ => false) := by
  by_cases z : kd = 0
  · subst z
    rw [if_pos rfl]
    exact calf_ok hG hne hf
  · rw [if_neg z]
    exact turns_ok hG hne hf
theorem gD_R {W : Nat} {ok : Nat → Bool} (hop : ∀ k, opK (op k)) (hdy : ∀ k, 1 ≤ dy k) : gR (gD W a b ok kd op dy) := by
  have l2 : ∀ k, 1 ≤ gDy kd (dy k) := fun k => by
    have := hdy k
    unfold gDy
    split <;> omega
  refine ⟨fun k x y hxy => ?_, fun k x => ?_⟩
  · show gLv kd (op k) x + gDy kd (dy k) ≤ gLv kd (op k) y + gDy kd (dy k)
    refine Nat.add_le_add_right ?_ _
    unfold gLv
    split
    · exact hxy
    · exact lvS_mono (hop k) hxy
  · show x < gLv kd (op k) x + gDy kd (dy k)
    have := l2 k
    have : x ≤ gLv kd (op k) x := by
      unfold gLv
      split
      · exact Nat.le_refl _
      · exact lvS_ge
    omega
end LA3
