/-! THE SMALL MACHINE OVER THE LARGE ONE: the world of a small heap -/
def zad (B : Nat) (sp : Nat → Nat) (a : Nat) : Nat := if a < 1000000 then B + a else sp a
def zcv (B : Nat) (sp : Nat → Nat) (v : zV) : Value := match v with
  | .inl x => .int x
  | .inr (.inl x) => .long x
  | .inr (.inr r) => va_rf (r.map (zad B sp))
def zE (B : Nat) (sp : Nat → Nat) (cA : Nat → ClassId) (h : zH) (a kind len : Nat) : va_E :=
  if kind < 13 then .inr (kind, (List.range (zft kind).length).map (fun f => zcv B sp (zfv h kind a f)))
  else if kind < 15 then .inl (cA kind, len, .inl (h.2.1 a))
  else if kind = 15 then .inl (cA kind, len, .inr (.inl (h.2.2.1 a)))
  else .inl (cA kind, len, .inr (.inr (.inr (.inr (fun k => (h.2.2.2.1 a k).map (zad B sp))))))
def zW (B : Nat) (sp : Nat → Nat) (cA : Nat → ClassId) (h : zH) : va_W := (List.range h.1.1).map (fun a => (B + a, zE B sp cA h a (h.1.2.1 a).1 (h.1.2.1 a).2))
def zAr (B : Nat) : Nat → Prop := fun q => B ≤ q
def zok (h : zH) : Prop := h.1.1 ≤ 900000 ∧ ∀ (a : Nat) (q : Nat × Nat), zsh h a = some q → q.1 ≤ 20
def ztys (cA : Nat → ClassId) : List (ClassId × FieldType) := [(cA 13, .byte), (cA 14, .int), (cA 15, .long), (cA 16, .object RX0), (cA 17, .object RX2), (cA 18, .object RX8), (cA 19, .object RX9), (cA 20, .object RX10)]
def zRel (B : Nat) (sp : Nat → Nat) (cA : Nat → ClassId) (D : va_G) (h : zH) (H : Heap) : Prop := va_P D vwCl (zW B sp cA h) H ∧ zok h ∧ (h.2.2.2.2 = 0 → H.size = B + h.1.1)
section ZW
variable {B : Nat} {sp : Nat → Nat} {cA : Nat → ClassId} {D : va_G} {h h' : zH} {H : Heap}
theorem zsh_lt {a : Nat} {q : Nat × Nat} (hq : zsh h a = some q) : a < h.1.1 := by
  unfold zsh at hq
  split at hq
  · next q => exact q
  · cases hq
theorem zsh_eq {a : Nat} {q : Nat × Nat} (hq : zsh h a = some q) : h.1.2.1 a = q := by
  unfold zsh at hq
  split at hq
  · cases hq; rfl
  · cases hq
theorem zW_get {a : Nat} {q : Nat × Nat} (hq : zsh h a = some q) : (zW B sp cA h)[a]? = some (B + a, zE B sp cA h a q.1 q.2) := by
  have h1 := zsh_lt hq
  have h2 := zsh_eq hq
  simp [zW, h1, h2]
theorem zW_some {a : Nat} {x : Nat × va_E} (hq : (zW B sp cA h)[a]? = some x) : ∃ q : Nat × Nat, zsh h a = some q ∧ x = (B + a, zE B sp cA h a q.1 q.2) := by
  simp only [zW, List.getElem?_map, Option.map_eq_some_iff] at hq
  obtain ⟨b, h1, h2⟩ := hq
  have hl : a < h.1.1 := by simpa using (List.getElem?_eq_some_iff.mp h1).1
  have hb : b = a := by
    have := (List.getElem?_eq_some_iff.mp h1).2
    simpa using this.symm
  subst hb
  exact ⟨h.1.2.1 b, by unfold zsh; rw [if_pos hl], h2.symm⟩
theorem zW_len : (zW B sp cA h).length = h.1.1 := by simp [zW]
theorem zW_D : va_D (zAr B) (zW B sp cA h) := by
  refine ⟨fun i j x y hi hj hxy => ?_, fun k q hk => ?_⟩
  · obtain ⟨q1, -, rfl⟩ := zW_some hi
    obtain ⟨q2, -, rfl⟩ := zW_some hj
    have : B + i = B + j := hxy
    omega
  · obtain ⟨q1, -, rfl⟩ := zW_some hk
    exact Nat.le_add_right B k
/-- one cell has changed -/
theorem zW_set {a k n : Nat} (hq : zsh h a = some (k, n)) (h1 : h'.1 = h.1) (ho : ∀ b, b ≠ a → ∀ k n, zE B sp cA h' b k n = zE B sp cA h b k n) : zW B sp cA h' = (zW B sp cA h).set a (B + a, zE B sp cA h' a k n) := by
  have hla := zsh_lt hq
  have hea := zsh_eq hq
  refine List.ext_getElem? fun i => ?_
  by_cases hi : i = a
  · subst hi
    rw [List.getElem?_set_self (by rw [zW_len]; exact hla)]
    simp [zW, h1, hla, hea]
  · rw [List.getElem?_set_ne (Ne.symm hi)]
    by_cases hl : i < h.1.1
    · simp [zW, h1, hl, ho i hi]
    · simp [zW, h1, hl]
/-- one cell more -/
theorem zW_new {k n : Nat} (ho : ∀ b, b < h.1.1 → ∀ k0 n0, zE B sp cA (znew h k n) b k0 n0 = zE B sp cA h b k0 n0) : zW B sp cA (znew h k n) = zW B sp cA h ++ [(B + h.1.1, zE B sp cA (znew h k n) h.1.1 k n)] := by
  unfold zW
  have e1 : (znew h k n).1.1 = h.1.1 + 1 := rfl
  rw [e1, List.range_succ, List.map_append]
  congr 1
  · refine List.map_congr_left fun a ha => ?_
    have hl : a < h.1.1 := List.mem_range.mp ha
    have e2 : (znew h k n).1.2.1 a = h.1.2.1 a := by simp [znew, Nat.ne_of_lt hl]
    rw [e2, ho a hl]
  · simp [znew]
theorem zfv_I {b a k ci f : Nat} {v : Int32} (hb : b ≠ a) : zfv (zsI h a k v) ci b f = zfv h ci b f := by simp [zfv, zsI, zup, hb]
theorem zE_sI {b a k kd n : Nat} {v : Int32} (hb : b ≠ a) : zE B sp cA (zsI h a k v) b kd n = zE B sp cA h b kd n := by
  have e : (fun j => (zsI h a k v).2.1 b j) = (fun j => h.2.1 b j) := by funext j; simp [zsI, zup, hb]
  have e2 : (zsI h a k v).2.1 b = h.2.1 b := e
  unfold zE
  simp only [zfv_I hb, e2]
  rfl
theorem zE_sR {b a k kd n : Nat} {v : Option Nat} (hb : b ≠ a) : zE B sp cA (zsR h a k v) b kd n = zE B sp cA h b kd n := by
  have e : ∀ j, (zsR h a k v).2.2.2.1 b j = h.2.2.2.1 b j := fun j => by simp [zsR, zup, hb]
  have e1 : ∀ ci f, zfv (zsR h a k v) ci b f = zfv h ci b f := fun ci f => by unfold zfv; rw [e]; rfl
  unfold zE
  simp only [e1, e]
  rfl
theorem zE_sL {b a k kd n : Nat} {v : Int64} (hb : b ≠ a) : zE B sp cA (zsL h a k v) b kd n = zE B sp cA h b kd n := by
  have e : (zsL h a k v).2.2.1 b = h.2.2.1 b := by funext j; simp [zsL, zup, hb]
  unfold zE
  simp only [e]
  rfl
theorem zE_sRow {b a kd n : Nat} {g : Nat → Int32} (hb : b ≠ a) : zE B sp cA (zsRow h a g) b kd n = zE B sp cA h b kd n := by
  have e2 : (zsRow h a g).2.1 b = h.2.1 b := by funext j; simp [zsRow, zrow, hb]
  have e1 : ∀ ci f, zfv (zsRow h a g) ci b f = zfv h ci b f := fun ci f => by unfold zfv; rw [e2]; rfl
  unfold zE
  simp only [e1, e2]
  rfl
theorem zE_new {b kd n k0 n0 : Nat} (hb : b < h.1.1) : zE B sp cA (znew h k0 n0) b kd n = zE B sp cA h b kd n := by
  have hb' : b ≠ h.1.1 := by omega
  have e2 : (znew h k0 n0).2.1 b = h.2.1 b := by funext j; simp [znew, zrow, hb']
  have e3 : (znew h k0 n0).2.2.1 b = h.2.2.1 b := by funext j; simp [znew, zrow, hb']
  have e4 : (znew h k0 n0).2.2.2.1 b = h.2.2.2.1 b := by funext j; simp [znew, zrow, hb']
  have e1 : ∀ ci f, zfv (znew h k0 n0) ci b f = zfv h ci b f := fun ci f => by unfold zfv; rw [e2, e4]
  unfold zE
  simp only [e1, e2, e3, e4]
theorem zcv_rf (r : Option Nat) : zcv B sp (.inr (.inr r)) = va_rf (r.map (zad B sp)) := rfl
theorem zcv_ref {a : Nat} (ha : a < 1000000) : zcv B sp (.inr (.inr (some a))) = .ref (B + a) := by
  show va_rf (some (zad B sp a)) = _
  rw [zad, if_pos ha]
  rfl
theorem zcat_cv (v : zV) : (zcv B sp v).category = zcat v := by
  match v with
  | .inl x => rfl
  | .inr (.inl x) => rfl
  | .inr (.inr none) => rfl
  | .inr (.inr (some a)) => rfl
theorem zwd_cv (vs : List zV) : ((vs.map (zcv B sp)).map fun v => v.category).sum = zwd vs := by
  rw [List.map_map]
  exact congrArg List.sum (List.map_congr_left fun v _ => zcat_cv v)
/-- locals -/
def zlv (B : Nat) (sp : Nat → Nat) (ls : zL) : List (Nat × Value) := ls.map (fun q => (q.1, zcv B sp q.2))
theorem zget_mem {ls : zL} {i : Nat} {v : zV} (hg : zget ls i = some v) : (i, v) ∈ ls := by
  induction ls with
  | nil => cases hg
  | cons q t ih =>
    unfold zget at hg
    split at hg
    · next e => cases hg; subst e; exact List.mem_cons_self
    · exact List.mem_cons_of_mem _ (ih hg)
theorem zget_at {ls : zL} {i n : Nat} {v : zV} {lA : Array Slot} (hl : lv_has lA n (zlv B sp ls)) (hg : zget ls i = some v) : lA[i]? = some (.val (zcv B sp v)) :=
  hl.2.2 (i, zcv B sp v) (List.mem_map.mpr ⟨(i, v), zget_mem hg, rfl⟩)
theorem zget_place {ls : zL} {i : Nat} {v : zV} (hg : zget ls i = some v) : ∃ k : Nat, (zlv B sp ls)[k]? = some (i, zcv B sp v) :=
  List.getElem?_of_mem (List.mem_map.mpr ⟨(i, v), zget_mem hg, rfl⟩)
theorem zset1_lv {ls : zL} {i : Nat} {v : zV} : (i, zcv B sp v) :: (zlv B sp ls).filter (fun q => !(q.1 == i) && !(q.1 + 1 == i && q.2.category == 2)) = zlv B sp (zset1 ls i v) := by
  show _ = (i, zcv B sp v) :: zlv B sp (ls.filter _)
  congr 1
  unfold zlv
  rw [List.filter_map]
  refine congrArg _ (List.filter_congr fun q _ => ?_)
  simp [zcat_cv]
theorem zset2_lv {ls : zL} {i : Nat} {v : zV} : (i, zcv B sp v) :: (zlv B sp ls).filter (fun q => !(q.1 == i) && (!(q.1 == i + 1) && !(q.1 + 1 == i && q.2.category == 2))) = zlv B sp (zset2 ls i v) := by
  show _ = (i, zcv B sp v) :: zlv B sp (ls.filter _)
  congr 1
  unfold zlv
  rw [List.filter_map]
  refine congrArg _ (List.filter_congr fun q _ => ?_)
  simp [zcat_cv]
theorem zargs_lv (vs : List zV) : ∀ i : Nat, lv_args i (vs.map (zcv B sp)) = zlv B sp (zargs i vs) := by
  induction vs with
  | nil => intro i; rfl
  | cons v vs ih =>
    intro i
    show (i, zcv B sp v) :: lv_args (if (zcv B sp v).category = 2 then i + 2 else i + 1) (vs.map (zcv B sp)) = (i, zcv B sp v) :: zlv B sp (zargs (if zcat v = 2 then i + 2 else i + 1) vs)
    rw [zcat_cv, ih]
end ZW
