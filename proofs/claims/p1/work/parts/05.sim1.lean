/-! THE SMALL MACHINE OVER THE LARGE ONE: the world of a small heap -/
def zad (B : Nat) (sp : Nat → Nat) (a : Nat) : Nat := if a < 1000000 then B + a else sp a
def zcv (B : Nat) (sp : Nat → Nat) (v : zV) : Value := match v with
  | .inl x => .int x
  | .inr (.inl x) => .long x
  | .inr (.inr r) => va_rf (r.map (zad B sp))
def zE (B : Nat) (sp : Nat → Nat) (cA : Nat → ClassId) (h : zH) (a kind len : Nat) : va_E :=
  if kind < 13 then .inr (kind, (List.range (zft kind).length).map (fun f => zcv B sp (zfv h kind a f)))
  else if kind < 15 then .inl (cA kind, len, .inl (h.2.1 a))
  else if kind = 15 then .inl (cA kind, len, .inr (.inl (h.2.2.1 a)))
  else .inl (cA kind, len, .inr (.inr (.inr (.inr (fun k => (h.2.2.2.1 a k).map (zad B sp))))))
def zW (B : Nat) (sp : Nat → Nat) (cA : Nat → ClassId) (h : zH) : va_W := h.1.mapIdx (fun a q => (B + a, zE B sp cA h a q.1 q.2))
def zAr (B : Nat) : Nat → Prop := fun q => B ≤ q
def zok (h : zH) : Prop := h.1.length ≤ 900000 ∧ ∀ (a : Nat) (q : Nat × Nat), h.1[a]? = some q → q.1 ≤ 20
def ztys (cA : Nat → ClassId) : List (ClassId × FieldType) := [(cA 13, .byte), (cA 14, .int), (cA 15, .long), (cA 16, .object RX0), (cA 17, .object RX2), (cA 18, .object RX8), (cA 19, .object RX9), (cA 20, .object RX10)]
def zRel (B : Nat) (sp : Nat → Nat) (cA : Nat → ClassId) (D : va_G) (h : zH) (H : Heap) : Prop := va_P D vwCl (zW B sp cA h) H ∧ zok h ∧ (h.2.2.2.2 = 0 → H.size = B + h.1.length)
section ZW
variable {B : Nat} {sp : Nat → Nat} {cA : Nat → ClassId} {D : va_G} {h h' : zH} {H : Heap}
theorem zW_get {a : Nat} {q : Nat × Nat} (hq : h.1[a]? = some q) : (zW B sp cA h)[a]? = some (B + a, zE B sp cA h a q.1 q.2) := by
  simp [zW, List.getElem?_mapIdx, hq]
theorem zW_some {a : Nat} {x : Nat × va_E} (hq : (zW B sp cA h)[a]? = some x) : ∃ q : Nat × Nat, h.1[a]? = some q ∧ x = (B + a, zE B sp cA h a q.1 q.2) := by
  simp only [zW, List.getElem?_mapIdx, Option.map_eq_some_iff] at hq
  obtain ⟨q, h1, h2⟩ := hq
  exact ⟨q, h1, h2.symm⟩
theorem zW_len : (zW B sp cA h).length = h.1.length := by simp [zW]
theorem zW_D : va_D (zAr B) (zW B sp cA h) := by
  refine ⟨fun i j x y hi hj hxy => ?_, fun k q hk => ?_⟩
  · obtain ⟨q1, -, rfl⟩ := zW_some hi
    obtain ⟨q2, -, rfl⟩ := zW_some hj
    have : B + i = B + j := hxy
    omega
  · obtain ⟨q1, -, rfl⟩ := zW_some hk
    exact Nat.le_add_right B k
/-- one cell has changed -/
theorem zW_set {a k n : Nat} (hq : h.1[a]? = some (k, n)) (h1 : h'.1 = h.1) (ho : ∀ b, b ≠ a → ∀ k n, zE B sp cA h' b k n = zE B sp cA h b k n) : zW B sp cA h' = (zW B sp cA h).set a (B + a, zE B sp cA h' a k n) := by
  refine List.ext_getElem? fun i => ?_
  by_cases hi : i = a
  · subst hi
    rw [zW_get (q := (k, n)) (by rw [h1]; exact hq), List.getElem?_set_self (by rw [zW_len]; exact (List.getElem?_eq_some_iff.mp hq).1)]
  · rw [List.getElem?_set_ne (Ne.symm hi)]
    simp only [zW, List.getElem?_mapIdx, h1]
    cases h.1[i]? with
    | none => rfl
    | some q => simp [ho i hi q.1 q.2]
/-- one cell more -/
theorem zW_new {k n : Nat} (h1 : h'.1 = h.1 ++ [(k, n)]) (ho : ∀ b, b < h.1.length → ∀ k n, zE B sp cA h' b k n = zE B sp cA h b k n) : zW B sp cA h' = zW B sp cA h ++ [(B + h.1.length, zE B sp cA h' h.1.length k n)] := by
  refine List.ext_getElem? fun i => ?_
  by_cases hi : i < h.1.length
  · rw [List.getElem?_append_left (by rw [zW_len]; exact hi)]
    simp only [zW, List.getElem?_mapIdx, h1, List.getElem?_append_left hi]
    cases h.1[i]? with
    | none => rfl
    | some q => simp [ho i hi q.1 q.2]
  · rw [List.getElem?_append_right (by rw [zW_len]; omega), zW_len]
    simp only [zW, List.getElem?_mapIdx, h1]
    rw [List.getElem?_append_right (by omega)]
    by_cases he : i - h.1.length = 0
    · have : i = h.1.length := by omega
      subst this
      simp
    · cases hx : i - h.1.length with
      | zero => exact absurd hx he
      | succ j => simp
theorem zfv_I {b a k ci f : Nat} {v : Int32} (hb : b ≠ a) : zfv (zsI h a k v) ci b f = zfv h ci b f := by simp [zfv, zsI, zup, hb]
theorem zE_sI {b a k kd n : Nat} {v : Int32} (hb : b ≠ a) : zE B sp cA (zsI h a k v) b kd n = zE B sp cA h b kd n := by
  have e : (fun j => (zsI h a k v).2.1 b j) = (fun j => h.2.1 b j) := by funext j; simp [zsI, zup, hb]
  have e2 : (zsI h a k v).2.1 b = h.2.1 b := e
  unfold zE
  simp only [zfv_I hb, e2]
  rfl
theorem zE_sR {b a k kd n : Nat} {v : Option Nat} (hb : b ≠ a) : zE B sp cA (zsR h a k v) b kd n = zE B sp cA h b kd n := by
  have e : ∀ j, (zsR h a k v).2.2.2.1 b j = h.2.2.2.1 b j := fun j => by simp [zsR, zup, hb]
  have e1 : ∀ ci f, zfv (zsR h a k v) ci b f = zfv h ci b f := fun ci f => by unfold zfv; rw [e]; rfl
  unfold zE
  simp only [e1, e]
  rfl
theorem zE_sL {b a k kd n : Nat} {v : Int64} (hb : b ≠ a) : zE B sp cA (zsL h a k v) b kd n = zE B sp cA h b kd n := by
  have e : (zsL h a k v).2.2.1 b = h.2.2.1 b := by funext j; simp [zsL, zup, hb]
  unfold zE
  simp only [e]
  rfl
theorem zE_sRow {b a kd n : Nat} {g : Nat → Int32} (hb : b ≠ a) : zE B sp cA (zsRow h a g) b kd n = zE B sp cA h b kd n := by
  have e2 : (zsRow h a g).2.1 b = h.2.1 b := by funext j; simp [zsRow, zrow, hb]
  have e1 : ∀ ci f, zfv (zsRow h a g) ci b f = zfv h ci b f := fun ci f => by unfold zfv; rw [e2]; rfl
  unfold zE
  simp only [e1, e2]
  rfl
theorem zE_new {b kd n k0 n0 : Nat} (hb : b < h.1.length) : zE B sp cA (znew h k0 n0) b kd n = zE B sp cA h b kd n := by
  have hb' : b ≠ h.1.length := by omega
  have e2 : (znew h k0 n0).2.1 b = h.2.1 b := by funext j; simp [znew, zrow, hb']
  have e3 : (znew h k0 n0).2.2.1 b = h.2.2.1 b := by funext j; simp [znew, zrow, hb']
  have e4 : (znew h k0 n0).2.2.2.1 b = h.2.2.2.1 b := by funext j; simp [znew, zrow, hb']
  have e1 : ∀ ci f, zfv (znew h k0 n0) ci b f = zfv h ci b f := fun ci f => by unfold zfv; rw [e2, e4]
  unfold zE
  simp only [e1, e2, e3, e4]
theorem zcv_rf (r : Option Nat) : zcv B sp (.inr (.inr r)) = va_rf (r.map (zad B sp)) := rfl
theorem zcv_ref {a : Nat} (ha : a < 1000000) : zcv B sp (.inr (.inr (some a))) = .ref (B + a) := by
  show va_rf (some (zad B sp a)) = _
  rw [zad, if_pos ha]
  rfl
theorem zcat_cv (v : zV) : (zcv B sp v).category = zcat v := by
  match v with
  | .inl x => rfl
  | .inr (.inl x) => rfl
  | .inr (.inr none) => rfl
  | .inr (.inr (some a)) => rfl
theorem zwd_cv (vs : List zV) : ((vs.map (zcv B sp)).map fun v => v.category).sum = zwd vs := by
  rw [List.map_map]
  exact congrArg List.sum (List.map_congr_left fun v _ => zcat_cv v)
/-- locals -/
def zlv (B : Nat) (sp : Nat → Nat) (ls : zL) : List (Nat × Value) := ls.map (fun q => (q.1, zcv B sp q.2))
theorem zget_mem {ls : zL} {i : Nat} {v : zV} (hg : zget ls i = some v) : (i, v) ∈ ls := by
  induction ls with
  | nil => cases hg
  | cons q t ih =>
    unfold zget at hg
    split at hg
    · next e => cases hg; subst e; exact List.mem_cons_self
    · exact List.mem_cons_of_mem _ (ih hg)
theorem zget_at {ls : zL} {i n : Nat} {v : zV} {lA : Array Slot} (hl : lv_has lA n (zlv B sp ls)) (hg : zget ls i = some v) : lA[i]? = some (.val (zcv B sp v)) :=
  hl.2.2 (i, zcv B sp v) (List.mem_map.mpr ⟨(i, v), zget_mem hg, rfl⟩)
theorem zget_place {ls : zL} {i : Nat} {v : zV} (hg : zget ls i = some v) : ∃ k : Nat, (zlv B sp ls)[k]? = some (i, zcv B sp v) :=
  List.getElem?_of_mem (List.mem_map.mpr ⟨(i, v), zget_mem hg, rfl⟩)
theorem zset1_lv {ls : zL} {i : Nat} {v : zV} : (i, zcv B sp v) :: (zlv B sp ls).filter (fun q => !(q.1 == i) && !(q.1 + 1 == i && q.2.category == 2)) = zlv B sp (zset1 ls i v) := by
  show _ = (i, zcv B sp v) :: zlv B sp (ls.filter _)
  congr 1
  unfold zlv
  rw [List.filter_map]
  refine congrArg _ (List.filter_congr fun q _ => ?_)
  simp [zcat_cv]
theorem zset2_lv {ls : zL} {i : Nat} {v : zV} : (i, zcv B sp v) :: (zlv B sp ls).filter (fun q => !(q.1 == i) && (!(q.1 == i + 1) && !(q.1 + 1 == i && q.2.category == 2))) = zlv B sp (zset2 ls i v) := by
  show _ = (i, zcv B sp v) :: zlv B sp (ls.filter _)
  congr 1
  unfold zlv
  rw [List.filter_map]
  refine congrArg _ (List.filter_congr fun q _ => ?_)
  simp [zcat_cv]
theorem zargs_lv (vs : List zV) : ∀ i : Nat, lv_args i (vs.map (zcv B sp)) = zlv B sp (zargs i vs) := by
  induction vs with
  | nil => intro i; rfl
  | cons v vs ih =>
    intro i
    show (i, zcv B sp v) :: lv_args (if (zcv B sp v).category = 2 then i + 2 else i + 1) (vs.map (zcv B sp)) = (i, zcv B sp v) :: zlv B sp (zargs (if zcat v = 2 then i + 2 else i + 1) vs)
    rw [zcat_cv, ih]
end ZW
