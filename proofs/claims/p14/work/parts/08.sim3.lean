section Pk0
/-! fields and arrays of the small machine over the large one -/
theorem zft_get {ci f : Nat} (h1 : ci < 13) (h2 : f < (zft ci).length) : zftok ci f = true ∧ (zTT ci f).1 = zRn ci := by
  have a1 := List.all_eq_true.mp zft_ok ci (List.mem_range.mpr h1)
  have a2 := List.all_eq_true.mp a1 f (List.mem_range.mpr h2)
  simp only [Bool.and_eq_true, decide_eq_true_eq] at a2
  exact a2
theorem zget_own {α : Type} {l : List (List α)} {o : Nat} {x : α} (h : x ∈ l.getD o []) : o < l.length := by
  rcases Nat.lt_or_ge o l.length with q | q
  · exact q
  · have e : l.getD o [] = [] := by simp [List.getD, List.getElem?_eq_none q]
    rw [e] at h
    cases h
theorem zfld_get {o k ci f : Nat} (h : zfld o k = some (ci, f)) : ci < 13 ∧ f < (zft ci).length ∧ Cond.fieldLink (zRn o) k (zRn ci) (zTT ci f).2.1 (zTT ci f).2.2.1 ∈ zws := by
  unfold zfld at h
  obtain ⟨q, h1, h2⟩ := Option.map_eq_some_iff.mp h
  have hm := zlook_mem h1
  have ho : o < 19 := zget_own hm
  have hc := List.all_eq_true.mp (zfldK o ho) _ hm
  cases h2
  simp only [zfldC, Bool.and_eq_true, decide_eq_true_eq] at hc
  exact ⟨hc.1.1.1, hc.1.1.2, zws_in hc.1.2 hc.2⟩
def zfs (B : Nat) (sp : Nat → Nat) (h : zH) (a ci : Nat) : List Value := (List.range (zft ci).length).map (fun f => zcv B sp (zfv h ci a f))
theorem zfs_len {B : Nat} {sp : Nat → Nat} {h : zH} {a ci : Nat} : (zfs B sp h a ci).length = (zft ci).length := by simp [zfs]
theorem zfs_get {B : Nat} {sp : Nat → Nat} {h : zH} {a ci f : Nat} (hf : f < (zft ci).length) : (zfs B sp h a ci)[f]? = some (zcv B sp (zfv h ci a f)) := by
  simp [zfs, hf]
theorem zE_obj {B : Nat} {sp : Nat → Nat} {cA : Nat → ClassId} {h : zH} {a ci n : Nat} (hc : ci < 13) : zE B sp cA h a ci n = .inr (ci, zfs B sp h a ci) := by
  unfold zE
  rw [if_pos hc]
  rfl
theorem zE_B {B : Nat} {sp : Nat → Nat} {cA : Nat → ClassId} {h : zH} {a n : Nat} : zE B sp cA h a 13 n = .inl (cA 13, n, .inl (h.2.1 a)) := rfl
theorem zE_I {B : Nat} {sp : Nat → Nat} {cA : Nat → ClassId} {h : zH} {a n : Nat} : zE B sp cA h a 14 n = .inl (cA 14, n, .inl (h.2.1 a)) := rfl
theorem zE_J {B : Nat} {sp : Nat → Nat} {cA : Nat → ClassId} {h : zH} {a n : Nat} : zE B sp cA h a 15 n = .inl (cA 15, n, .inr (.inl (h.2.2.1 a))) := rfl
theorem zE_R {B : Nat} {sp : Nat → Nat} {cA : Nat → ClassId} {h : zH} {a k n : Nat} (hk : 16 ≤ k) : zE B sp cA h a k n = .inl (cA k, n, .inr (.inr (.inr (.inr (fun j => (h.2.2.2.1 a j).map (zad B sp)))))) := by
  unfold zE
  rw [if_neg (by omega), if_neg (by omega), if_neg (by omega)]
/-- a field's store, in the world -/
theorem zput_W {B : Nat} {sp : Nat → Nat} {cA : Nat → ClassId} {h h' : zH} {ci a f n : Nat} {v : zV} (hq : zsh h a = some (ci, n)) (hc : ci < 13) (hf : f < (zft ci).length) (hz : zput h ci a f v = some h') :
    h'.1 = h.1 ∧ h'.2.2.2.2 = h.2.2.2.2 ∧ zW B sp cA h' = (zW B sp cA h).set a (B + a, .inr (ci, (zfs B sp h a ci).set f (zcv B sp v))) ∧ narrow (zty ci f) (zcv B sp v) = zcv B sp v ∧ fits (zty ci f) (zcv B sp v) = true := by
  have hk := (zft_get hc hf).1
  unfold zput at hz
  split at hz
  · next x =>
    split at hz
    · next hcode =>
      cases hz
      have hne : (zft ci).getD f 0 ≠ 3 := by
        have e : (zft ci).getD f 0 = (zft ci).getD f 9 := by simp [List.getD, hf]
        rw [e]
        rcases hcode with q | ⟨q, -⟩ <;> rw [q] <;> decide
      refine ⟨rfl, rfl, ?_, ?_⟩
      · rw [zW_set (h' := zsI h a f x) hq rfl (fun b hb k n => zE_sI hb), zE_obj hc]
        congr 4
        refine List.ext_getElem? fun j => ?_
        by_cases hj : j < (zft ci).length
        · rw [zfs_get hj]
          by_cases hjf : j = f
          · subst hjf
            rw [List.getElem?_set_self (by rw [zfs_len]; exact hj)]
            unfold zfv
            rw [if_neg hne]
            simp [zsI, zup]
          · rw [List.getElem?_set_ne (Ne.symm hjf), zfs_get hj]
            unfold zfv
            simp [zsI, zup, hjf]
        · rw [List.getElem?_eq_none (by rw [zfs_len]; omega), List.getElem?_eq_none (by rw [List.length_set, zfs_len]; omega)]
      · rcases hcode with q | ⟨q, hx⟩
        · simp only [zftok, q, decide_eq_true_eq] at hk
          rw [hk]
          exact ⟨rfl, rfl⟩
        · simp only [zftok, q, decide_eq_true_eq] at hk
          rw [hk]
          rcases hx with rfl | rfl
          · exact ⟨(by decide : narrow FieldType.boolean (Value.int 0) = Value.int 0), (by decide : fits FieldType.boolean (Value.int 0) = true)⟩
          · exact ⟨(by decide : narrow FieldType.boolean (Value.int 1) = Value.int 1), (by decide : fits FieldType.boolean (Value.int 1) = true)⟩
    · cases hz
  · next r =>
    split at hz
    · next hcode =>
      cases hz
      have hne : (zft ci).getD f 0 = 3 := by
        have e : (zft ci).getD f 0 = (zft ci).getD f 9 := by simp [List.getD, hf]
        rw [e]; exact hcode
      refine ⟨rfl, rfl, ?_, ?_⟩
      · rw [zW_set (h' := zsR h a f r) hq rfl (fun b hb k n => zE_sR hb), zE_obj hc]
        congr 4
        refine List.ext_getElem? fun j => ?_
        by_cases hj : j < (zft ci).length
        · rw [zfs_get hj]
          by_cases hjf : j = f
          · subst hjf
            rw [List.getElem?_set_self (by rw [zfs_len]; exact hj)]
            unfold zfv
            rw [if_pos hne]
            simp [zsR, zup]
          · rw [List.getElem?_set_ne (Ne.symm hjf), zfs_get hj]
            unfold zfv
            simp [zsR, zup, hjf]
        · rw [List.getElem?_eq_none (by rw [zfs_len]; omega), List.getElem?_eq_none (by rw [List.length_set, zfs_len]; omega)]
      · simp only [zftok, hcode] at hk
        show narrow (zty ci f) (va_rf (r.map (zad B sp))) = va_rf (r.map (zad B sp)) ∧ fits (zty ci f) (va_rf (r.map (zad B sp))) = true
        generalize zty ci f = ty at hk
        cases ty <;> first | (cases hk; done) | (cases r <;> exact ⟨rfl, rfl⟩)
    · cases hz
  · cases hz
section ZP
variable {p : Program} {l : Launch} {e : Env} {R : Room} {s : State} {m : MethodId} {args : Array Value} {below : List Frame} {meth : Method} {c : Code} {H : Heap} {locs : List Loc} {cells slots : Nat} {Q : State → Prop}
variable {cc : ByteArray} {pc : Nat} {ls : Array Slot} {rest : List Value} {D : va_G} {cl : List vw_C} {A : Nat → Prop} {a : Nat} {tys : List (ClassId × FieldType)} {ws : va_W} {H0 : Heap}
/-- a field's store, which leaves the heap's size -/
theorem zp_put (hexec : p.tables.exec = Jvm.exec) (hb : c.code = cc) {own ref C : String} {T : u_T} {N ci index : Nat} {Ts : List Cond} (hts : ∀ w ∈ Ts, w.before args s = true) (hin : ∀ w ∈ u_ws C T N, w ∈ Ts) (ty0 : Nat → FieldType) (hty : ∀ k, k < N → parseFieldDescriptor (T k).2.2.1 = some (ty0 k)) (hnm : ∀ a, a < N → ∀ b, b < N → a ≠ b → (T a).2.1 ≠ (T b).2.1) (hown : s.vm.findClass own = some m.cls) (hK : va_K D cl tys s) (hP : va_P D cl ws H) (hD : va_D A ws) (hS0 : va_S A H0 H locs) (q0 : Nat) {fs : List Value} (he : ws[q0]? = some (a, .inr (ci, fs))) (hc : cl[ci]? = some (C, T, N)) (k : Nat) (hk : k < N) (hlink : (Cond.fieldLink own index ref (T k).2.1 (T k).2.2.1).before args s = true) (hsame : ∀ x, s.fieldFound? (T k).1 (T k).2.1 (T k).2.2.1 = some x → s.fieldFound? ref (T k).2.1 (T k).2.2.1 = some x) (hfin : (T k).2.2.2 = false ∨ (meth.name = "<init>" ∧ (T k).1 = own)) {v : Value} (hn : narrow (ty0 k) v = v) (hfit : fits (ty0 k) v = true) (hl : k < fs.length)
    (hdg : decode cc pc = .ok (.putfield index, 3)) (kk : ∀ (H1 : Heap) (locs1 : List Loc), H1.size = H.size → va_P D cl (ws.set q0 (a, .inr (ci, fs.set k v))) H1 → va_S A H0 H1 locs1 → W p l e R s m args below meth c H1 locs1 cells slots Q (F0 m (pc + 3) ls rest)) : W p l e R s m args below meth c H locs cells slots Q (F0 m pc ls (v :: .ref a :: rest)) := by
  have hap := va_apart (own := own) hts hin ty0 hty hnm hK hc
  obtain ⟨r, h1, cell, q1, q2, q3, q4⟩ := hP q0 _ he
  have hr : r = (C, T, N) := Option.some.inj (h1.symm.trans hc)
  subst hr
  obtain ⟨hS, hfc, kC, hkC, hkind⟩ := hK.1 ci _ hc
  obtain ⟨cf, kf, fi, f, hi, hsl⟩ := hS k hk
  have hlay := hts _ (hin _ (u_in_lay hk))
  have hst := (u_facts hfc hkC (u_lays hts hin hk) hi).1
  unfold u_lay at hlay
  by_cases hf : (T k).2.2.2 = true
  · obtain ⟨hin2, hdecl⟩ : meth.name = "<init>" ∧ (T k).1 = own := by
      rcases hfin with q | q
      · rw [q] at hf; cases hf
      · exact q
    rw [if_pos hf] at hlay
    have hcf : m.cls = cf := by
      obtain ⟨_, _, c', _, _, _, -, -, hf', -, -, -, hown2, -⟩ := Cond.laysFinal_spec hlay
      have e1 : c' = cf := by have := hi.symm.trans hf'; simp at this; exact this.1.symm
      rw [hdecl] at hown2
      rw [← e1]; exact Option.some.inj (hown.symm.trans hown2)
    have h6 := u_fits hfc hkC hkind (Or.inr hlay) hi (hty k hk) hn hfit
    refine W.putFinK hexec hb hown hlink (hsame _ hi) hst hcf hin2 (by rw [q2]; exact h6) q1 q3 (by rw [hsl]; exact k2_hasslot (q4 k hk)) rfl rfl hdg fun H' e1 e2 e3 => ?_
    rw [hsl] at e1 ⊢
    exact kk H' _ e2 (hP.set hD he ⟨_, hc, t_OB.to (V := updV (vp_V fs) k v) ⟨_, e1, q2, q3, t_set q4 hap hk v⟩ (fun j _ => vp_updV_set hl v j)⟩ e3) (hS0.put e2 e3 (hD.2 q0 _ he))
  · rw [if_neg hf] at hlay
    have h6 := u_store hfc hkC hkind hlay hi (hty k hk) hn hfit
    refine W.putK hexec hb (f := f) ⟨hown, hlink, ⟨_, _, _, hsame _ hi⟩, hst⟩ (by rw [q2]; exact h6) q1 q3 (by rw [hsl]; exact k2_hasslot (q4 k hk)) rfl rfl hdg fun H' e1 e2 e3 => ?_
    rw [hsl] at e1 ⊢
    exact kk H' _ e2 (hP.set hD he ⟨_, hc, t_OB.to (V := updV (vp_V fs) k v) ⟨_, e1, q2, q3, t_set q4 hap hk v⟩ (fun j _ => vp_updV_set hl v j)⟩ e3) (hS0.put e2 e3 (hD.2 q0 _ he))
/-- a text by a wide index -/
theorem zp_ldcwS (hexec : p.tables.exec = Jvm.exec) (hb : c.code = cc) {own tx : String} {index q : Nat} (hown : s.vm.findClass own = some m.cls) (hZ : vk_R own index tx q s) (hdg : decode cc pc = .ok (.ldc_w index, 3))
    (k : W p l e R s m args below meth c H locs cells slots Q (F0 m (pc + 3) ls (.ref q :: rest))) : W p l e R s m args below meth c H locs cells slots Q (F0 m pc ls rest) := by
  intro T hT X
  obtain ⟨t, a1, b1⟩ := k T hT X
  refine ⟨t, ?_, b1⟩
  obtain ⟨k, cf, i, a', hk, hcf, hcp, -, hr, hev'⟩ := Cond.stringRef_spec hown hZ.1
  cases hZ.2.symm.trans hev'
  obtain ⟨k', hk', he⟩ := X.warmed.alike.2.2 _ _ hk
  have hr' : k'.resolved[index]? = some (some (.string q)) := by
    rcases X.warmed.entry hk hk' index with h | ⟨h, -⟩
    · rw [h]; exact hr
    · rw [hr] at h; cases h
  have hdg' : decode c.code (F0 m pc ls rest).pc = .ok (.ldc_w index, 3) := by rw [hb]; exact hdg
  jvm_step X.here [hexec, hdg', ldc_w.wp_string (e := e) (s := T) (f := F0 m pc ls rest) X.here.top hk' (by rw [he]; exact hcf) hcp hr']
  exact a1
/-- stores into arrays, which leave the heap's size -/
theorem zp_iast (hexec : p.tables.exec = Jvm.exec) (hb : c.code = cc) (hK : va_K D cl tys s) (hP : va_P D cl ws H) (hD : va_D A ws) (hS : va_S A H0 H locs) (q0 t0 : Nat) {cA : ClassId} {n : Nat} {f : Nat → Int32} (ha : ws[q0]? = some (a, .inl (cA, n, .inl f))) (ht : tys[t0]? = some (cA, .int)) {i : Int32} {x : Int32} (hin : vp_in i n) (hdg : decode cc pc = .ok (.iastore, 1))
    (kk : ∀ (H1 : Heap) (locs1 : List Loc), H1.size = H.size → va_P D cl (ws.set q0 (a, .inl (cA, n, .inl (upd f i.toNatClampNeg x)))) H1 → va_S A H0 H1 locs1 → W p l e R s m args below meth c H1 locs1 cells slots Q (F0 m (pc + 1) ls rest)) : W p l e R s m args below meth c H locs cells slots Q (F0 m pc ls (.int x :: .int i :: .ref a :: rest)) := by
  refine W.iast hexec hb (hP q0 _ ha) ((hK.2 t0 _ ht).1 n (fun j => .int (f j))) (fun q => by cases q) (by show ¬ (i < 0 ∨ (arrV _ _ _).slots.size ≤ _); rw [arrV_size]; exact hin) rfl rfl hdg fun H1 e z oq => ?_
  refine kk H1 _ z (hP.set hD ha ?_ oq) (hS.put z oq (hD.2 q0 _ ha))
  show H1[a]? = some (vp_cell _ _)
  rw [e, vp_cell_i, vp_cell_i, arrV_store]
  congr 2
  funext q
  by_cases hq : q = i.toNatClampNeg
  · subst hq; simp [updV, upd]
  · simp [updV, upd, hq]
theorem zp_bast (hexec : p.tables.exec = Jvm.exec) (hb : c.code = cc) (hK : va_K D cl tys s) (hP : va_P D cl ws H) (hD : va_D A ws) (hS : va_S A H0 H locs) (q0 t0 : Nat) {cA : ClassId} {n : Nat} {f : Nat → Int32} (ha : ws[q0]? = some (a, .inl (cA, n, .inl f))) (ht : tys[t0]? = some (cA, .byte)) {i : Int32} {x : Int32} (hin : vp_in i n) (hdg : decode cc pc = .ok (.bastore, 1))
    (kk : ∀ (H1 : Heap) (locs1 : List Loc), H1.size = H.size → va_P D cl (ws.set q0 (a, .inl (cA, n, .inl (upd f i.toNatClampNeg (vp_nar .byte x))))) H1 → va_S A H0 H1 locs1 → W p l e R s m args below meth c H1 locs1 cells slots Q (F0 m (pc + 1) ls rest)) : W p l e R s m args below meth c H locs cells slots Q (F0 m pc ls (.int x :: .int i :: .ref a :: rest)) := by
  refine W.bast hexec hb (hP q0 _ ha) ((hK.2 t0 _ ht).1 n (fun j => .int (f j))) (fun q => by cases q) (by show ¬ (i < 0 ∨ (arrV _ _ _).slots.size ≤ _); rw [arrV_size]; exact hin) rfl rfl hdg fun H1 e z oq => ?_
  refine kk H1 _ z (hP.set hD ha ?_ oq) (hS.put z oq (hD.2 q0 _ ha))
  show H1[a]? = some (vp_cell _ _)
  rw [e, vp_cell_i, vp_cell_i, arrV_store]
  congr 2
  funext q
  by_cases hq : q = i.toNatClampNeg
  · subst hq; simp [updV, upd, vp_nar]; rfl
  · simp [updV, upd, hq]
theorem zp_last (hexec : p.tables.exec = Jvm.exec) (hb : c.code = cc) (hK : va_K D cl tys s) (hP : va_P D cl ws H) (hD : va_D A ws) (hS : va_S A H0 H locs) (q0 t0 : Nat) {cA : ClassId} {n : Nat} {f : Nat → Int64} (ha : ws[q0]? = some (a, .inl (cA, n, .inr (.inl f)))) (ht : tys[t0]? = some (cA, .long)) {i : Int32} {x : Int64} (hin : vp_in i n) (hdg : decode cc pc = .ok (.lastore, 1))
    (kk : ∀ (H1 : Heap) (locs1 : List Loc), H1.size = H.size → va_P D cl (ws.set q0 (a, .inl (cA, n, .inr (.inl (vp_updL f i.toNatClampNeg x))))) H1 → va_S A H0 H1 locs1 → W p l e R s m args below meth c H1 locs1 cells slots Q (F0 m (pc + 1) ls rest)) : W p l e R s m args below meth c H locs cells slots Q (F0 m pc ls (.long x :: .int i :: .ref a :: rest)) := by
  refine W.last hexec hb (hP q0 _ ha) ((hK.2 t0 _ ht).1 n (fun j => .long (f j))) (fun q => by cases q) (by show ¬ (i < 0 ∨ (arrV _ _ _).slots.size ≤ _); rw [arrV_size]; exact hin) rfl rfl hdg fun H1 e z oq => ?_
  refine kk H1 _ z (hP.set hD ha ?_ oq) (hS.put z oq (hD.2 q0 _ ha))
  show H1[a]? = some (vp_cell _ _)
  rw [e, vp_cell_l, vp_cell_l, arrV_store]
  congr 2
  funext q
  by_cases hq : q = i.toNatClampNeg
  · subst hq; simp [updV, vp_updL]
  · simp [updV, vp_updL, hq]
theorem zp_astq (hexec : p.tables.exec = Jvm.exec) (hb : c.code = cc) (hK : va_K D cl tys s) (hP : va_P D cl ws H) (hD : va_D A ws) (hS : va_S A H0 H locs) (q0 t0 qk ci : Nat) {cA : ClassId} {r : vw_C} {n v : Nat} {vs : List Value} {f : Nat → Option Nat} (ha : ws[q0]? = some (a, .inl (cA, n, .inr (.inr (.inr (.inr f)))))) (ht : tys[t0]? = some (cA, .object r.1)) (hv : ws[qk]? = some (v, .inr (ci, vs))) (hc : cl[ci]? = some r) {i : Int32} (hin : vp_in i n) (hdg : decode cc pc = .ok (.aastore, 1))
    (kk : ∀ (H1 : Heap) (locs1 : List Loc), H1.size = H.size → va_P D cl (ws.set q0 (a, .inl (cA, n, .inr (.inr (.inr (.inr (va_up f i.toNatClampNeg (some v)))))))) H1 → va_S A H0 H1 locs1 → W p l e R s m args below meth c H1 locs1 cells slots Q (F0 m (pc + 1) ls rest)) : W p l e R s m args below meth c H locs cells slots Q (F0 m pc ls (.ref v :: .int i :: .ref a :: rest)) := by
  have hlt : i.toNatClampNeg < n := Nat.not_le.mp fun q => hin (Or.inr q)
  have h0 : ¬ i < 0 := fun q => hin (Or.inl q)
  obtain ⟨r', hr', cellV, g1, g2, g3, -⟩ := hP qk _ hv
  have hcls := (hK.1 ci r hc).2
  obtain ⟨kA, comp, k1, k2, k3, -⟩ := (hK.2 t0 _ ht).2
  have hcomp : comp = D.1 ci := Option.some.inj (k3.symm.trans hcls.1)
  subst hcomp
  obtain ⟨kC, hkC, -⟩ := hcls.2
  refine W.aast hexec hb (hP q0 _ ha) (fun q h => by cases h) (fun h => by cases h) k1 k2 rfl hkC ⟨h0, by show _ < (arrV _ _ _).slots.size; rw [arrV_size]; exact hlt⟩ g1 (fun q h => by rw [g3] at h; cases h) (by rw [g2]; exact hkC) (by rw [g2]; exact va_assign hcls) rfl rfl hdg fun H1 e z oq => ?_
  refine kk H1 _ z (hP.set hD ha ?_ oq) (hS.put z oq (hD.2 q0 _ ha))
  show H1[a]? = some (vp_cell _ _)
  rw [e, vp_cell_q, vp_cell_q, arrV_store]
  congr 2
  funext q
  by_cases hq : q = i.toNatClampNeg
  · subst hq; simp [updV, va_up, va_rf]
  · simp [updV, va_up, hq]
/-- new cells, at the heap's end -/
theorem zp_new {c0 : Code} (hexec : p.tables.exec = Jvm.exec) (hb : c0.code = cc) {own C : String} {T : u_T} {N ci index : Nat} {Ts : List Cond} (hts : ∀ w ∈ Ts, w.before args s = true) (hin : ∀ w ∈ u_ws C T N, w ∈ Ts) (ty : Nat → FieldType) (hty : ∀ k, k < N → parseFieldDescriptor (T k).2.2.1 = some (ty k)) (hown : s.vm.findClass own = some m.cls) (hcl : (Cond.classLink own index C).before args s = true) (hinst : (Cond.instantiable C N).before args s = true) (hini : (Cond.initialized C).before args s = true)
    (hK : va_K D cl tys s) (hP : va_P D cl ws H) (hS : va_S A H0 H locs) (hc : cl[ci]? = some (C, T, N)) {fs : List Value} (hfs : ∀ j, j < N → defaultValue (ty j) = vp_V fs j) (hcells : cells + 1 ≤ R.cells) (hslots : slots + N ≤ R.slots) (hdg : decode cc pc = .ok (.new index, 3))
    (kk : ∀ (H1 : Heap), H1.size = H.size + 1 → va_P D cl (ws ++ [(H.size, .inr (ci, fs))]) H1 → va_S A H0 H1 locs →
      W p l e R s m args below meth c0 H1 locs (cells + 1) (slots + N) Q (F0 m (pc + 3) ls (.ref H.size :: rest))) : W p l e R s m args below meth c0 H locs cells slots Q (F0 m pc ls rest) := by
  have hKn := hK.1 ci _ hc
  refine W.newcK hexec hb hown hcl hinst hini rfl hdg hcells hslots hKn.2.1 rfl fun H1 kC hkC e1 z1 o1 => ?_
  have hk : ∀ (k : Nat) (x : Nat × va_E), ws[k]? = some x → H1[x.1]? = H[x.1]? := fun k x hx => o1 x.1 ((hP k x hx).lt)
  refine kk H1 z1 ((hP.kept hk).app (fun k x hx => ?_)) ⟨Nat.le_trans hS.1 (by omega), fun x h1 h2 => (o1 x (Nat.lt_of_lt_of_le h1 hS.1)).trans (hS.2.1 x h1 h2), hS.2.2⟩
  have hz : k < 1 := (List.getElem?_eq_some_iff.mp hx).1
  rw [show k = 0 by omega] at hx
  cases hx
  exact ⟨_, hc, (u_born ty hts hin hKn hkC e1 hty).to hfs⟩
theorem zp_newa (hexec : p.tables.exec = Jvm.exec) (hb : c.code = cc) {atype : ArrayType} (harr : (Cond.arrayClass (newarray.typeOf atype)).before args s = true) (hP : va_P D cl ws H) (hS : va_S A H0 H locs)
    {n : Int32} {N' : Nat} {a0 : vp_A} {cX : ClassId} (hX : s.vm.findClass ("[" ++ (newarray.typeOf atype).toString) = some cX) (ha : vp_cell cX a0 = arrV cX N' (fun _ => defaultValue (newarray.typeOf atype))) (hn : ¬ n < 0) (hN : n.toNatClampNeg = N') (hbytes : N' * componentBytes (newarray.typeOf atype) ≤ 536870912) (hcells : cells + 1 ≤ R.cells) (hslots : slots + N' ≤ R.slots) (hdg : decode cc pc = .ok (.newarray atype, 2))
    (kk : ∀ (H1 : Heap), H1.size = H.size + 1 → va_P D cl (ws ++ [(H.size, .inl (cX, a0))]) H1 → va_S A H0 H1 locs →
      W p l e R s m args below meth c H1 locs (cells + 1) (slots + N') Q (F0 m (pc + 2) ls (.ref H.size :: rest))) : W p l e R s m args below meth c H locs cells slots Q (F0 m pc ls (.int n :: rest)) := by
  refine va_newaK hexec hb harr rfl hdg rfl hn hN hbytes hcells hslots rfl fun H1 cA e1 z1 o1 hAr hNm => ?_
  have hcc : cA = cX := Option.some.inj (hNm.symm.trans hX)
  subst hcc
  have hk : ∀ (k : Nat) (x : Nat × va_E), ws[k]? = some x → H1[x.1]? = H[x.1]? := fun k x hx => o1 x.1 ((hP k x hx).lt)
  refine kk H1 z1 ((hP.kept hk).app (fun k x hx => ?_)) ⟨Nat.le_trans hS.1 (by omega), fun x h1 h2 => (o1 x (Nat.lt_of_lt_of_le h1 hS.1)).trans (hS.2.1 x h1 h2), hS.2.2⟩
  have hz : k < 1 := (List.getElem?_eq_some_iff.mp hx).1
  rw [show k = 0 by omega] at hx
  cases hx
  show H1[H.size]? = some (vp_cell _ _)
  rw [ha]
  exact e1
theorem zp_newq (hexec : p.tables.exec = Jvm.exec) (hb : c.code = cc) {own C : String} {index : Nat} (hown : s.vm.findClass own = some m.cls) (hclink : (Cond.classLink own index C).before args s = true) (hover : va_AO C s) (hP : va_P D cl ws H) (hS : va_S A H0 H locs)
    {n : Int32} {N' : Nat} {cX : ClassId} (hX : s.vm.findClass ("[" ++ (FieldType.object C).toString) = some cX) (hn : ¬ n < 0) (hN : n.toNatClampNeg = N') (hbytes : N' * 4 ≤ 536870912) (hcells : cells + 1 ≤ R.cells) (hslots : slots + N' ≤ R.slots) (hdg : decode cc pc = .ok (.anewarray index, 3))
    (kk : ∀ (H1 : Heap), H1.size = H.size + 1 → va_P D cl (ws ++ [(H.size, .inl (cX, N', .inr (.inr (.inr (.inr (fun _ => none))))))]) H1 → va_S A H0 H1 locs →
      W p l e R s m args below meth c H1 locs (cells + 1) (slots + N') Q (F0 m (pc + 3) ls (.ref H.size :: rest))) : W p l e R s m args below meth c H locs cells slots Q (F0 m pc ls (.int n :: rest)) := by
  subst hN
  refine W.anew hexec hb hown hclink (va_AO.use hover) rfl hdg rfl hn hbytes hcells hslots fun cA kA comp f1 f2 f3 f4 => ?_
  have hcc : cA = cX := Option.some.inj (f1.symm.trans hX)
  subst hcc
  generalize hH1 : H.push ({ cls := cA, slots := Array.replicate n.toNatClampNeg .null, vm := .none } : Cell) = H1
  have z1 : H1.size = H.size + 1 := by rw [← hH1, Array.size_push]
  have e1 : H1[H.size]? = some (arrV cA n.toNatClampNeg (fun _ => .null)) := by rw [← hH1, Array.getElem?_push_size, ← arrV_new]
  have o1 : ∀ q : Nat, q < H.size → H1[q]? = H[q]? := fun q hq => by rw [← hH1, Array.getElem?_push, if_neg (Nat.ne_of_lt hq)]
  have hk : ∀ (k : Nat) (x : Nat × va_E), ws[k]? = some x → H1[x.1]? = H[x.1]? := fun k x hx => o1 x.1 ((hP k x hx).lt)
  refine kk H1 z1 ((hP.kept hk).app (fun k x hx => ?_)) ⟨Nat.le_trans hS.1 (by omega), fun x h1 h2 => (o1 x (Nat.lt_of_lt_of_le h1 hS.1)).trans (hS.2.1 x h1 h2), hS.2.2⟩
  have hz : k < 1 := (List.getElem?_eq_some_iff.mp hx).1
  rw [show k = 0 by omega] at hx
  cases hx
  show H1[H.size]? = some (vp_cell _ _)
  rw [vp_cell_q]
  exact e1
end ZP
section ZS3
variable {p : Program} {l : Launch} {e : Env} {R : Room} {s : State} {m : MethodId} {args : Array Value} {below : List Frame} {meth : Method} {c : Code} {Q : State → Prop} {B : Nat} {sp : Nat → Nat} {cA : Nat → ClassId} {D : va_G} {mi : zM} {c0 s0 : Nat}
variable {pc len : Nat} {ls : zL} {st : List zV} {h : zH}
theorem zok_lt {a : Nat} {q : Nat × Nat} (hk : zok h) (hq : zsh h a = some q) : a < 1000000 := by
  have := zsh_lt hq
  have := hk.1
  omega
theorem zs_get {k a ci f n : Nat} (cx : zX p s m args meth c B sp cA D mi) (hd : decode mi.1 pc = .ok (.getfield k, 3)) (hz : zfld mi.2.1 k = some (ci, f)) (hq : zsh h a = some (ci, n)) (kk : zK p l e R s m args below meth c Q B sp cA D mi c0 s0 (pc + 3, ls, zfv h ci a f :: st, h)) : zK p l e R s m args below meth c Q B sp cA D mi c0 s0 (pc, ls, .inr (.inr (some a)) :: st, h) := by
  intro H locs lA cells slots hR hS hl h1 h2
  obtain ⟨hx, hb, hml, hown, hts, hin, hK, -⟩ := cx
  obtain ⟨hc, hf, hw⟩ := zfld_get hz
  have hW := zW_get (B := B) (sp := sp) (cA := cA) hq
  rw [zE_obj hc] at hW
  show W p l e R s m args below meth c H locs cells slots Q (F0 m pc lA (zcv B sp (.inr (.inr (some a))) :: st.map (zcv B sp)))
  rw [zcv_ref (zok_lt hR.2.1 hq)]
  exact va_get hx hb hts (zcl_ws hc) hown hK hR.1 a hW (zcl_cl hc) f hf (hts _ hw) (by rw [(zft_get hc hf).2]; exact fun _ q => q) (zfs_get hf) hd (kk H locs lA cells slots hR hS hl h1 h2)
theorem zs_put {k a ci f n : Nat} {v : zV} {h' : zH} (cx : zX p s m args meth c B sp cA D mi) (hd : decode mi.1 pc = .ok (.putfield k, 3)) (hz : zfld mi.2.1 k = some (ci, f)) (hq : zsh h a = some (ci, n)) (hfi : zfin ci f = false ∨ (mi.2.2.2.2.2 = true ∧ mi.2.1 = ci)) (hp : zput h ci a f v = some h')
    (kk : zK p l e R s m args below meth c Q B sp cA D mi c0 s0 (pc + 3, ls, st, h')) : zK p l e R s m args below meth c Q B sp cA D mi c0 s0 (pc, ls, v :: .inr (.inr (some a)) :: st, h) := by
  intro H locs lA cells slots hR hS hl h1 h2
  obtain ⟨hx, hb, hml, hown, hts, hin, hK, -⟩ := cx
  obtain ⟨hc, hf, hw⟩ := zfld_get hz
  have hW := zW_get (B := B) (sp := sp) (cA := cA) hq
  rw [zE_obj hc] at hW
  obtain ⟨e1, e2, e3, e4, e5⟩ := zput_W (B := B) (sp := sp) (cA := cA) hq hc hf hp
  show W p l e R s m args below meth c H locs cells slots Q (F0 m pc lA (zcv B sp v :: zcv B sp (.inr (.inr (some a))) :: st.map (zcv B sp)))
  rw [zcv_ref (zok_lt hR.2.1 hq)]
  have hzc : zc h' = zc h := by unfold zc; rw [e1, e2]
  have hzt : zt h' = zt h := by unfold zt; rw [e1, e2]
  have hok : zok h' := by unfold zok zsh; rw [e1]; exact hR.2.1
  refine zp_put hx hb hts (zcl_ws hc) (zty ci) (zcl_ty hc) (zcl_nm hc) hown hK hR.1 zW_D hS a hW (zcl_cl hc) f hf (hts _ hw) (by rw [(zft_get hc hf).2]; exact fun _ q => q) ?_ e4 e5 (by rw [zfs_len]; exact hf) hd (fun H1 locs1 hz1 hP1 hS1 => ?_)
  · rcases hfi with q | ⟨q1, q2⟩
    · exact Or.inl q
    · exact Or.inr ⟨hin q1, by rw [(zft_get hc hf).2, q2]⟩
  · exact kk H1 locs1 lA cells slots ⟨by rw [e3]; exact hP1, hok, fun q => by rw [hz1, e1]; exact hR.2.2 (by rw [← e2]; exact q)⟩ hS1 hl (by rw [hzc]; exact h1) (by rw [hzt]; exact h2)
/-- constants of the pool -/
theorem zcst_get {o k : Nat} {v : zV} (hz : zcst o k = some v) : (∃ x, v = .inl x ∧ Cond.constant (zRn o) k x ∈ zws) ∨ (∃ x, v = .inr (.inl x) ∧ Cond.constantLong (zRn o) k x ∈ zws) ∨ (∃ a q, v = .inr (.inr (some a)) ∧ 1000000 ≤ a ∧ q ∈ zsr ∧ q.1 = o ∧ q.2.1 = k ∧ q.2.2.2.1 = a) := by
  unfold zcst at hz
  obtain ⟨q, h1, h2⟩ := Option.map_eq_some_iff.mp hz
  have hm := zlook_mem h1
  have ho : o < 19 := zget_own hm
  have hc := List.all_eq_true.mp (List.all_eq_true.mp zcstK o (List.mem_range.mpr ho)) _ hm
  cases h2
  unfold zcstC at hc
  dsimp only at hc
  split at hc
  · next x hx =>
    simp only [Bool.and_eq_true, decide_eq_true_eq] at hc
    exact Or.inl ⟨x, hx, zws_in hc.1 hc.2⟩
  · next x hx =>
    simp only [Bool.and_eq_true, decide_eq_true_eq] at hc
    exact Or.inr (Or.inl ⟨x, hx, zws_in hc.1 hc.2⟩)
  · next a hx =>
    simp only [Bool.and_eq_true, decide_eq_true_eq, List.any_eq_true] at hc
    obtain ⟨⟨q', h3, ⟨h4, h5⟩, h6⟩, h7⟩ := hc
    exact Or.inr (Or.inr ⟨a, q', hx, h7, h3, h4, h5, h6⟩)
  · cases hc
theorem zs_ldv {k : Nat} {i : Instr} {v : zV} (cx : zX p s m args meth c B sp cA D mi) (hi : (i = .ldc k ∧ len = 2) ∨ (i = .ldc_w k ∧ len = 3) ∨ (i = .ldc2_w k ∧ len = 3)) (hd : decode mi.1 pc = .ok (i, len)) (hz : zcst mi.2.1 k = some v) (hn : i = .ldc2_w k ↔ zcat v = 2)
    (kk : zK p l e R s m args below meth c Q B sp cA D mi c0 s0 (pc + len, ls, v :: st, h)) : zK p l e R s m args below meth c Q B sp cA D mi c0 s0 (pc, ls, st, h) := by
  intro H locs lA cells slots hR hS hl h1 h2
  have k' := kk H locs lA cells slots hR hS hl h1 h2
  obtain ⟨hx, hb, hml, hown, hts, hin, hC⟩ := cx
  rcases zcst_get hz with ⟨x, rfl, hw⟩ | ⟨x, rfl, hw⟩ | ⟨a, q, rfl, ha, hq, e1, e2, e3⟩
  · rcases hi with ⟨rfl, rfl⟩ | ⟨rfl, rfl⟩ | ⟨rfl, rfl⟩
    · exact lv_ldc hx hb hown (hts _ hw) hd k'
    · exact lv_ldcw hx hb hown (hts _ hw) hd k'
    · exact absurd (hn.mp rfl) (by simp [zcat])
  · rcases hi with ⟨rfl, rfl⟩ | ⟨rfl, rfl⟩ | ⟨rfl, rfl⟩
    · exact absurd (hn.mpr rfl) (by simp)
    · exact absurd (hn.mpr rfl) (by simp)
    · exact lv_ldc2 hx hb hown (hts _ hw) hd k'
  · rcases hi with ⟨rfl, rfl⟩ | ⟨rfl, rfl⟩ | ⟨rfl, rfl⟩
    · have hZ := hC.2.2.1 q hq
      rw [e1, e2, e3] at hZ
      refine va_ldcS hx hb hown hZ hd ?_
      have e4 : zcv B sp (.inr (.inr (some a))) = .ref (sp a) := by
        show va_rf (some (zad B sp a)) = _
        rw [zad, if_neg (by omega)]
        rfl
      have k2 : W p l e R s m args below meth c H locs cells slots Q (F0 m (pc + 2) lA (zcv B sp (.inr (.inr (some a))) :: st.map (zcv B sp))) := k'
      rw [e4] at k2
      exact k2
    · have hZ := hC.2.2.1 q hq
      rw [e1, e2, e3] at hZ
      refine zp_ldcwS hx hb hown hZ hd ?_
      have e4 : zcv B sp (.inr (.inr (some a))) = .ref (sp a) := by
        show va_rf (some (zad B sp a)) = _
        rw [zad, if_neg (by omega)]
        rfl
      have k2 : W p l e R s m args below meth c H locs cells slots Q (F0 m (pc + 3) lA (zcv B sp (.inr (.inr (some a))) :: st.map (zcv B sp))) := k'
      rw [e4] at k2
      exact k2
    · exact absurd (hn.mp rfl) (by simp [zcat])
theorem zin_in {i : Int32} {n : Nat} (hz : zin i n = true) : vp_in i n := by
  unfold zin at hz
  exact fun hq => (of_decide_eq_true hz : ¬ (i < 0 ∨ n ≤ i.toNatClampNeg)) hq
/-- an int array's place is read, or the script's -/
theorem zs_iald {a : Nat} {i v : Int32} {scr : Option (Nat × (Nat → Int32))} (cx : zX p s m args meth c B sp cA D mi) (hd : decode mi.1 pc = .ok (.iaload, 1)) (hz : zld scr h 14 a i = some v) (hscr : ∀ L xs, scr = some (L, xs) → va_X (sp 1000000) L xs s s.heap ∧ sp 1000000 < s.heap.size ∧ sp 1000000 < B)
    (kk : zK p l e R s m args below meth c Q B sp cA D mi c0 s0 (pc + 1, ls, .inl v :: st, h)) : zK p l e R s m args below meth c Q B sp cA D mi c0 s0 (pc, ls, .inl i :: .inr (.inr (some a)) :: st, h) := by
  intro H locs lA cells slots hR hS hl h1 h2
  have k' := kk H locs lA cells slots hR hS hl h1 h2
  obtain ⟨hx, hb, hml, hown, hts, hin, hC⟩ := cx
  show W p l e R s m args below meth c H locs cells slots Q (F0 m pc lA (.int i :: zcv B sp (.inr (.inr (some a))) :: st.map (zcv B sp)))
  unfold zld at hz
  split at hz
  · next k n hq =>
    split at hz
    · next hk =>
      subst hk
      split at hz
      · next hi =>
        cases hz
        rw [zcv_ref (zok_lt hR.2.1 hq)]
        exact va_iald hx hb hC.1 hR.1 a 1 (zW_get hq) rfl (zin_in hi) hd k'
      · cases hz
    · cases hz
  · split at hz
    · next hq =>
      obtain ⟨-, rfl⟩ := hq
      split at hz
      · next L xs =>
        split at hz
        · next hi =>
          cases hz
          obtain ⟨hX, hbl, hbB⟩ := hscr L xs rfl
          have e4 : zcv B sp (.inr (.inr (some 1000000))) = .ref (sp 1000000) := rfl
          rw [e4]
          exact va_sld hx hb hX hbl (Nat.not_le.mpr hbB) hS (zin_in hi) hd k'
        · cases hz
      · cases hz
    · split at hz
      · next hq =>
        obtain ⟨-, rfl⟩ := hq
        split at hz
        · next hi =>
          cases hz
          have e4 : zcv B sp (.inr (.inr (some 1000001))) = .ref (sp 1000001) := rfl
          rw [e4]
          exact va_ti hx hb hC.2.2.2.2.2.1.2.2.2.2 hS (zin_in hi) rfl hd k'
        · cases hz
      · cases hz
theorem zs_getst (cx : zX p s m args meth c B sp cA D mi) (hd : decode mi.1 pc = .ok (.getstatic zgsk, 3)) (ho : mi.2.1 = 6)
    (kk : zK p l e R s m args below meth c Q B sp cA D mi c0 s0 (pc + 3, ls, .inr (.inr (some 1000001)) :: st, h)) : zK p l e R s m args below meth c Q B sp cA D mi c0 s0 (pc, ls, st, h) := by
  intro H locs lA cells slots hR hS hl h1 h2
  have k' := kk H locs lA cells slots hR hS hl h1 h2
  obtain ⟨hx, hb, hml, hown, hts, hin, hC⟩ := cx
  rw [ho] at hown
  refine va_getsN hx hb hC.2.2.2.2.2.1.2.2.2.1 hS hown (va_Nw.use rfl hC.2.2.2.2.2.2) (fun _ h => h) hd ?_
  exact k'
theorem zs_bald {a : Nat} {i v : Int32} {scr : Option (Nat × (Nat → Int32))} (cx : zX p s m args meth c B sp cA D mi) (hd : decode mi.1 pc = .ok (.baload, 1)) (hz : zld scr h 13 a i = some v)
    (kk : zK p l e R s m args below meth c Q B sp cA D mi c0 s0 (pc + 1, ls, .inl v :: st, h)) : zK p l e R s m args below meth c Q B sp cA D mi c0 s0 (pc, ls, .inl i :: .inr (.inr (some a)) :: st, h) := by
  intro H locs lA cells slots hR hS hl h1 h2
  have k' := kk H locs lA cells slots hR hS hl h1 h2
  obtain ⟨hx, hb, hml, hown, hts, hin, hC⟩ := cx
  show W p l e R s m args below meth c H locs cells slots Q (F0 m pc lA (.int i :: zcv B sp (.inr (.inr (some a))) :: st.map (zcv B sp)))
  unfold zld at hz
  split at hz
  · next k n hq =>
    split at hz
    · next hk =>
      subst hk
      split at hz
      · next hi =>
        cases hz
        rw [zcv_ref (zok_lt hR.2.1 hq)]
        exact va_bald hx hb hC.1 hR.1 a 0 (zW_get hq) rfl (zin_in hi) hd k'
      · cases hz
    · cases hz
  · split at hz
    · next hq => exact absurd hq.1 (by decide)
    · split at hz
      · next hq => exact absurd hq.1 (by decide)
      · cases hz
theorem zs_lald {a n : Nat} {i : Int32} (cx : zX p s m args meth c B sp cA D mi) (hd : decode mi.1 pc = .ok (.laload, 1)) (hq : zsh h a = some (15, n)) (hi : zin i n = true)
    (kk : zK p l e R s m args below meth c Q B sp cA D mi c0 s0 (pc + 1, ls, .inr (.inl (h.2.2.1 a i.toNatClampNeg)) :: st, h)) : zK p l e R s m args below meth c Q B sp cA D mi c0 s0 (pc, ls, .inl i :: .inr (.inr (some a)) :: st, h) := by
  intro H locs lA cells slots hR hS hl h1 h2
  have k' := kk H locs lA cells slots hR hS hl h1 h2
  obtain ⟨hx, hb, hml, hown, hts, hin, hC⟩ := cx
  show W p l e R s m args below meth c H locs cells slots Q (F0 m pc lA (.int i :: zcv B sp (.inr (.inr (some a))) :: st.map (zcv B sp)))
  rw [zcv_ref (zok_lt hR.2.1 hq)]
  exact va_lald hx hb hC.1 hR.1 a 2 (zW_get hq) rfl (zin_in hi) hd k'
theorem ztys_R {k : Nat} (h1 : 16 ≤ k) (h2 : k ≤ 20) : (ztys cA)[k - 13]? = some (cA k, .object (zRn (zrc k))) := by
  have : k = 16 ∨ k = 17 ∨ k = 18 ∨ k = 19 ∨ k = 20 := by omega
  rcases this with rfl | rfl | rfl | rfl | rfl <;> rfl
theorem zs_aald {a k n : Nat} {i : Int32} (cx : zX p s m args meth c B sp cA D mi) (hd : decode mi.1 pc = .ok (.aaload, 1)) (hq : zsh h a = some (k, n)) (hk : 16 ≤ k) (hk2 : k ≤ 20) (hi : zin i n = true)
    (kk : zK p l e R s m args below meth c Q B sp cA D mi c0 s0 (pc + 1, ls, .inr (.inr (h.2.2.2.1 a i.toNatClampNeg)) :: st, h)) : zK p l e R s m args below meth c Q B sp cA D mi c0 s0 (pc, ls, .inl i :: .inr (.inr (some a)) :: st, h) := by
  intro H locs lA cells slots hR hS hl h1 h2
  have k' := kk H locs lA cells slots hR hS hl h1 h2
  obtain ⟨hx, hb, hml, hown, hts, hin, hC⟩ := cx
  show W p l e R s m args below meth c H locs cells slots Q (F0 m pc lA (.int i :: zcv B sp (.inr (.inr (some a))) :: st.map (zcv B sp)))
  rw [zcv_ref (zok_lt hR.2.1 hq)]
  have hW := zW_get (B := B) (sp := sp) (cA := cA) hq
  rw [zE_R hk] at hW
  exact va_aldq hx hb hC.1 hR.1 a (k - 13) hW (ztys_R hk hk2) (zin_in hi) hd k'
theorem zs_iast {a : Nat} {i v : Int32} {h' : zH} (cx : zX p s m args meth c B sp cA D mi) (hd : decode mi.1 pc = .ok (.iastore, 1)) (hz : zst h 14 a i v = some h')
    (kk : zK p l e R s m args below meth c Q B sp cA D mi c0 s0 (pc + 1, ls, st, h')) : zK p l e R s m args below meth c Q B sp cA D mi c0 s0 (pc, ls, .inl v :: .inl i :: .inr (.inr (some a)) :: st, h) := by
  intro H locs lA cells slots hR hS hl h1 h2
  obtain ⟨hx, hb, hml, hown, hts, hin, hC⟩ := cx
  show W p l e R s m args below meth c H locs cells slots Q (F0 m pc lA (.int v :: .int i :: zcv B sp (.inr (.inr (some a))) :: st.map (zcv B sp)))
  unfold zst at hz
  split at hz
  · next k n hq =>
    split at hz
    · next hk =>
      subst hk
      split at hz
      · next hi =>
        cases hz
        rw [zcv_ref (zok_lt hR.2.1 hq)]
        refine zp_iast hx hb hC.1 hR.1 zW_D hS a 1 (zW_get hq) rfl (zin_in hi) hd (fun H1 locs1 hz1 hP1 hS1 => ?_)
        refine kk H1 locs1 lA cells slots ⟨?_, hR.2.1, fun q => by rw [hz1]; exact hR.2.2 q⟩ hS1 hl h1 h2
        rw [zW_set (h' := zsI h a i.toNatClampNeg v) hq rfl (fun b hb k n => zE_sI hb), zE_I]
        have e : (zsI h a i.toNatClampNeg v).2.1 a = upd (h.2.1 a) i.toNatClampNeg v := by
          funext j
          simp [zsI, zup, upd]
        rw [e]
        exact hP1
      · cases hz
    · cases hz
  · cases hz
theorem zs_bast {a : Nat} {i v : Int32} {h' : zH} (cx : zX p s m args meth c B sp cA D mi) (hd : decode mi.1 pc = .ok (.bastore, 1)) (hz : zst h 13 a i (vp_nar .byte v) = some h')
    (kk : zK p l e R s m args below meth c Q B sp cA D mi c0 s0 (pc + 1, ls, st, h')) : zK p l e R s m args below meth c Q B sp cA D mi c0 s0 (pc, ls, .inl v :: .inl i :: .inr (.inr (some a)) :: st, h) := by
  intro H locs lA cells slots hR hS hl h1 h2
  obtain ⟨hx, hb, hml, hown, hts, hin, hC⟩ := cx
  show W p l e R s m args below meth c H locs cells slots Q (F0 m pc lA (.int v :: .int i :: zcv B sp (.inr (.inr (some a))) :: st.map (zcv B sp)))
  unfold zst at hz
  split at hz
  · next k n hq =>
    split at hz
    · next hk =>
      subst hk
      split at hz
      · next hi =>
        cases hz
        rw [zcv_ref (zok_lt hR.2.1 hq)]
        refine zp_bast hx hb hC.1 hR.1 zW_D hS a 0 (zW_get hq) rfl (zin_in hi) hd (fun H1 locs1 hz1 hP1 hS1 => ?_)
        refine kk H1 locs1 lA cells slots ⟨?_, hR.2.1, fun q => by rw [hz1]; exact hR.2.2 q⟩ hS1 hl h1 h2
        rw [zW_set (h' := zsI h a i.toNatClampNeg (vp_nar .byte v)) hq rfl (fun b hb k n => zE_sI hb), zE_B]
        have e : (zsI h a i.toNatClampNeg (vp_nar .byte v)).2.1 a = upd (h.2.1 a) i.toNatClampNeg (vp_nar .byte v) := by
          funext j
          simp [zsI, zup, upd]
        rw [e]
        exact hP1
      · cases hz
    · cases hz
  · cases hz
theorem zs_last {a n : Nat} {i : Int32} {v : Int64} (cx : zX p s m args meth c B sp cA D mi) (hd : decode mi.1 pc = .ok (.lastore, 1)) (hq : zsh h a = some (15, n)) (hi : zin i n = true)
    (kk : zK p l e R s m args below meth c Q B sp cA D mi c0 s0 (pc + 1, ls, st, zsL h a i.toNatClampNeg v)) : zK p l e R s m args below meth c Q B sp cA D mi c0 s0 (pc, ls, .inr (.inl v) :: .inl i :: .inr (.inr (some a)) :: st, h) := by
  intro H locs lA cells slots hR hS hl h1 h2
  obtain ⟨hx, hb, hml, hown, hts, hin, hC⟩ := cx
  show W p l e R s m args below meth c H locs cells slots Q (F0 m pc lA (.long v :: .int i :: zcv B sp (.inr (.inr (some a))) :: st.map (zcv B sp)))
  rw [zcv_ref (zok_lt hR.2.1 hq)]
  refine zp_last hx hb hC.1 hR.1 zW_D hS a 2 (zW_get hq) rfl (zin_in hi) hd (fun H1 locs1 hz1 hP1 hS1 => ?_)
  refine kk H1 locs1 lA cells slots ⟨?_, hR.2.1, fun q => by rw [hz1]; exact hR.2.2 q⟩ hS1 hl h1 h2
  show va_P D vwCl (zW B sp cA (zsL h a i.toNatClampNeg v)) H1
  rw [zW_set (h' := zsL h a i.toNatClampNeg v) hq rfl (fun b hb k n => zE_sL hb), zE_J]
  have e : (zsL h a i.toNatClampNeg v).2.2.1 a = vp_updL (h.2.2.1 a) i.toNatClampNeg v := by
    funext j
    simp [zsL, zup, vp_updL]
  rw [e]
  exact hP1
theorem zs_aast {a k n v nv : Nat} {i : Int32} (cx : zX p s m args meth c B sp cA D mi) (hd : decode mi.1 pc = .ok (.aastore, 1)) (hq : zsh h a = some (k, n)) (hv : zsh h v = some (zrc k, nv)) (hk : 16 ≤ k) (hk2 : k ≤ 20) (hi : zin i n = true)
    (kk : zK p l e R s m args below meth c Q B sp cA D mi c0 s0 (pc + 1, ls, st, zsR h a i.toNatClampNeg (some v))) : zK p l e R s m args below meth c Q B sp cA D mi c0 s0 (pc, ls, .inr (.inr (some v)) :: .inl i :: .inr (.inr (some a)) :: st, h) := by
  intro H locs lA cells slots hR hS hl h1 h2
  obtain ⟨hx, hb, hml, hown, hts, hin, hC⟩ := cx
  show W p l e R s m args below meth c H locs cells slots Q (F0 m pc lA (zcv B sp (.inr (.inr (some v))) :: .int i :: zcv B sp (.inr (.inr (some a))) :: st.map (zcv B sp)))
  rw [zcv_ref (zok_lt hR.2.1 hq), zcv_ref (zok_lt hR.2.1 hv)]
  have hrc : zrc k < 13 := by
    have : k = 16 ∨ k = 17 ∨ k = 18 ∨ k = 19 ∨ k = 20 := by omega
    rcases this with rfl | rfl | rfl | rfl | rfl <;> decide
  have hW := zW_get (B := B) (sp := sp) (cA := cA) hq
  rw [zE_R hk] at hW
  have hWv := zW_get (B := B) (sp := sp) (cA := cA) hv
  rw [zE_obj hrc] at hWv
  refine zp_astq hx hb hC.1 hR.1 zW_D hS a (k - 13) v (zrc k) hW (r := (zRn (zrc k), zTT (zrc k), (zft (zrc k)).length)) (ztys_R hk hk2) hWv (zcl_cl hrc) (zin_in hi) hd (fun H1 locs1 hz1 hP1 hS1 => ?_)
  refine kk H1 locs1 lA cells slots ⟨?_, hR.2.1, fun q => by rw [hz1]; exact hR.2.2 q⟩ hS1 hl h1 h2
  show va_P D vwCl (zW B sp cA (zsR h a i.toNatClampNeg (some v))) H1
  rw [zW_set (h' := zsR h a i.toNatClampNeg (some v)) hq rfl (fun b hb k n => zE_sR hb), zE_R hk]
  have e : (fun j => ((zsR h a i.toNatClampNeg (some v)).2.2.2.1 a j).map (zad B sp)) = va_up (fun j => (h.2.2.2.1 a j).map (zad B sp)) i.toNatClampNeg (some (B + v)) := by
    funext j
    by_cases hj : j = i.toNatClampNeg
    · subst hj
      have := zok_lt hR.2.1 hv
      simp [zsR, zup, va_up, zad, this]
    · simp [zsR, zup, va_up, hj]
  rw [e]
  exact hP1
theorem zs_alen {a : Nat} {v : Int32} {scr : Option (Nat × (Nat → Int32))} (cx : zX p s m args meth c B sp cA D mi) (hd : decode mi.1 pc = .ok (.arraylength, 1)) (hz : zlen scr h a = some v) (hscr : ∀ L xs, scr = some (L, xs) → va_X (sp 1000000) L xs s s.heap ∧ sp 1000000 < s.heap.size ∧ sp 1000000 < B)
    (kk : zK p l e R s m args below meth c Q B sp cA D mi c0 s0 (pc + 1, ls, .inl v :: st, h)) : zK p l e R s m args below meth c Q B sp cA D mi c0 s0 (pc, ls, .inr (.inr (some a)) :: st, h) := by
  intro H locs lA cells slots hR hS hl h1 h2
  have k' := kk H locs lA cells slots hR hS hl h1 h2
  obtain ⟨hx, hb, hml, hown, hts, hin, hC⟩ := cx
  show W p l e R s m args below meth c H locs cells slots Q (F0 m pc lA (zcv B sp (.inr (.inr (some a))) :: st.map (zcv B sp)))
  unfold zlen at hz
  split at hz
  · next k n hq =>
    split at hz
    · next hk =>
      cases hz
      rw [zcv_ref (zok_lt hR.2.1 hq)]
      have h20 := hR.2.1.2 a _ hq
      have hW := zW_get (B := B) (sp := sp) (cA := cA) hq
      have h3 : k = 13 ∨ k = 14 ∨ k = 15 ∨ 16 ≤ k := by omega
      rcases h3 with rfl | rfl | rfl | h3
      · exact va_alen hx hb hC.1 hR.1 a 0 hW rfl rfl hd k'
      · exact va_alen hx hb hC.1 hR.1 a 1 hW rfl rfl hd k'
      · exact va_alen hx hb hC.1 hR.1 a 2 hW rfl rfl hd k'
      · rw [zE_R h3] at hW
        exact va_alen hx hb hC.1 hR.1 a (k - 13) hW (ztys_R h3 h20) rfl hd k'
    · cases hz
  · split at hz
    · next hq =>
      subst hq
      obtain ⟨⟨L, xs⟩, hs1, hs2⟩ := Option.map_eq_some_iff.mp hz
      obtain ⟨hX, hbl, hbB⟩ := hscr L xs hs1
      have e4 : zcv B sp (.inr (.inr (some 1000000))) = .ref (sp 1000000) := rfl
      rw [e4]
      subst hs2
      exact va_slen hx hb hX hbl (Nat.not_le.mpr hbB) hS hd k'
    · cases hz
end ZS3
end Pk0
section Pk1
/-! new cells, the JDK's own, calls -/
section ZP4
variable {p : Program} {l : Launch} {e : Env} {R : Room} {s : State} {m : MethodId} {args : Array Value} {below : List Frame} {meth : Method} {c : Code} {H : Heap} {locs : List Loc} {cells slots : Nat} {Q : State → Prop}
variable {cc : ByteArray} {pc : Nat} {ls : Array Slot} {rest : List Value} {D : va_G} {cl : List vw_C} {A : Nat → Prop} {a : Nat} {tys : List (ClassId × FieldType)} {ws : va_W} {H0 : Heap}
/-- System.arraycopy of ints, which leaves the heap's size -/
theorem zp_copyi (hexec : p.tables.exec = Jvm.exec) (hb : c.code = cc) (hml : c.maxLocals = ls.size) {own : String} {index : Nat} (hown : s.vm.findClass own = some m.cls) (hlink : (Cond.methodLink own index arraycopyName).before args s = true) (hnat : (Cond.native arraycopyName).before args s = true) (hstat : (Cond.static arraycopyName).before args s = true) (hini : (Cond.initialized "java/lang/System").before args s = true)
    (hK : va_K D cl tys s) (hP : va_P D cl ws H) (hD : va_D A ws) (hS : va_S A H0 H locs) (q0 q1 t0 t1 : Nat) {a0 : Nat} {c0 c1 : ClassId} {n0 n1 : Nat} {f g : Nat → Int32} (ha0 : ws[q0]? = some (a0, .inl (c0, n0, .inl f))) (ha1 : ws[q1]? = some (a, .inl (c1, n1, .inl g))) (ht0 : tys[t0]? = some (c0, .int)) (ht1 : tys[t1]? = some (c1, .int))
    {sp dp n : Int32} (h1 : ¬ sp < 0) (h2 : ¬ dp < 0) (h3 : ¬ n < 0) (h4 : sp.toNatClampNeg + n.toNatClampNeg ≤ n0) (h5 : dp.toNatClampNeg + n.toNatClampNeg ≤ n1)
    (hframes : 1 ≤ R.frames) (hlocals : (rest.map fun v => v.category).sum + 18 ≤ R.locals) (hdg : decode cc pc = .ok (.invokestatic index, 3))
    (kk : ∀ (H1 : Heap) (locs1 : List Loc), H1.size = H.size → va_P D cl (ws.set q1 (a, .inl (c1, n1, .inl (va_cpy f g sp.toNatClampNeg dp.toNatClampNeg n.toNatClampNeg)))) H1 → va_S A H0 H1 locs1 → W p l e R s m args below meth c H1 locs1 cells slots Q (F0 m (pc + 3) ls rest)) : W p l e R s m args below meth c H locs cells slots Q (F0 m pc ls (.int n :: .int dp :: .ref a :: .int sp :: .ref a0 :: rest)) := by
  have nn : ∀ z : Int32, ¬ z < 0 → z.toInt = (z.toNatClampNeg : Int) := by
    intro z hz
    have hz0 : (0 : Int) ≤ z.toInt := by
      have := Int32.not_lt.mp hz
      simpa using Int32.le_iff_toInt_le.mp this
    show z.toInt = ((z.toInt.toNat : Nat) : Int)
    omega
  intro T hT X
  have hc0 : H[a0]? = some (vp_cell c0 (n0, .inl f)) := hP q0 _ ha0
  have hc1 : H[a]? = some (vp_cell c1 (n1, .inl g)) := hP q1 _ ha1
  obtain ⟨-, k0, hk0, cm0, hkk0⟩ := (hK.2 t0 _ ht0).1 n0 (fun j => .int (f j))
  obtain ⟨-, k1, hk1, cm1, hkk1⟩ := (hK.2 t1 _ ht1).1 n1 (fun j => .int (g j))
  obtain ⟨vm', X', step⟩ := X.arraycopy hexec hown hlink hnat hstat hini (src := a0) (dst := a) (cs := vp_cell c0 (n0, .inl f)) (cd := vp_cell c1 (n1, .inl g)) (srcPos := sp) (destPos := dp) (n := n) (by rw [hT]; exact hc0) (by rw [hT]; exact hc1)
    (fun _ h => by cases h) (fun _ h => by cases h) (fun h => by cases h) (fun h => by cases h) hk0 hk1 hkk0 hkk1 (by simp [refKind]) h1 h2 h3
    (by rw [nn sp h1, nn n h3]; show ¬ _ > ((arrV c0 n0 (fun j => .int (f j))).slots.size : Int); rw [arrV_size]; omega)
    (by rw [nn dp h2, nn n h3]; show ¬ _ > ((arrV c1 n1 (fun j => .int (g j))).slots.size : Int); rw [arrV_size]; omega)
    (fun vm₁ _ i hi => by
      have e : (vp_cell c0 (n0, .inl f)).slots.getD (sp.toNatClampNeg + i) .null = .int (f (sp.toNatClampNeg + i)) := by
        show (arrV c0 n0 (fun j => .int (f j))).slots.getD _ _ = _
        rw [Array.getD_eq_getD_getElem?, arrV_read _ _ (by omega)]
        rfl
      refine ⟨?_, ?_⟩
      · rw [e]
        rfl
      · rw [e]
        exact trivial)
    (g := F0 m pc ls (.int n :: .int dp :: .ref a :: .int sp :: .ref a0 :: rest)) rfl (by rw [hml]) (rest := rest) rfl (by rw [hb]; exact hdg) hframes (by show 2 * 0 + _ + (7 + 11) ≤ _; omega)
  have e1 : copied (vp_cell c0 (n0, .inl f)) (vp_cell c1 (n1, .inl g)) sp dp n = vp_cell c1 (n1, .inl (va_cpy f g sp.toNatClampNeg dp.toNatClampNeg n.toNatClampNeg)) := va_copied (fun z => .int z) c0 c1 f g h4
  rw [e1] at X' step
  have hl : a < H.size := (Array.getElem?_eq_some_iff.mp hc1).1
  have hheap : ((T.setVm vm').setCell a (vp_cell c1 (n1, .inl (va_cpy f g sp.toNatClampNeg dp.toNatClampNeg n.toNatClampNeg)))).heap = H.setIfInBounds a (vp_cell c1 (n1, .inl (va_cpy f g sp.toNatClampNeg dp.toNatClampNeg n.toNatClampNeg))) := by rw [← hT]; rfl
  have oq : ∀ q : Nat, q ≠ a → (H.setIfInBounds a (vp_cell c1 (n1, .inl (va_cpy f g sp.toNatClampNeg dp.toNatClampNeg n.toNatClampNeg))))[q]? = H[q]? := fun q hq => by simp [Array.getElem?_setIfInBounds, Ne.symm hq]
  obtain ⟨t, a1, b1⟩ := kk _ _ (by simp) (hP.set hD ha1 (show (H.setIfInBounds a _)[a]? = some _ by simp [Array.getElem?_setIfInBounds, hl]) oq) ⟨by simp; exact hS.1, fun q g1 g2 => by
      rw [oq q (fun e => g2 (by rw [e]; exact hD.2 q1 _ ha1))]
      exact hS.2.1 q g1 g2, fun q hq => by
      rcases List.mem_append.mp hq with h | h
      · exact hS.2.2 q h
      · obtain ⟨z, -, hz⟩ := List.mem_map.mp h
        rw [← hz]
        exact hD.2 q1 _ ha1⟩ _ hheap X'
  exact ⟨t, step t a1, b1⟩
end ZP4
section ZS4
variable {p : Program} {l : Launch} {e : Env} {R : Room} {s : State} {m : MethodId} {args : Array Value} {below : List Frame} {meth : Method} {c : Code} {Q : State → Prop} {B : Nat} {sp : Nat → Nat} {cA : Nat → ClassId} {D : va_G} {mi : zM} {c0 s0 : Nat}
variable {pc len : Nat} {ls : zL} {st : List zV} {h : zH}
theorem zok_new {k n : Nat} (hk : zok h) (h20 : k ≤ 20) (hl : h.1.1 < 900000) : zok (znew h k n) := by
  refine ⟨by show h.1.1 + 1 ≤ 900000; omega, fun a q hq => ?_⟩
  have hl := zsh_lt hq
  have he := zsh_eq hq
  simp only [znew] at hl he
  by_cases ha : a = h.1.1
  · rw [if_pos ha] at he
    subst he
    exact h20
  · rw [if_neg ha] at he
    exact hk.2 a q (by unfold zsh; rw [if_pos (by omega), he])
theorem zc_new {k n : Nat} : zc (znew h k n) = zc h + 1 := by simp [zc, znew]; omega
theorem zt_new {k n : Nat} : zt (znew h k n) = zt h + n := by simp [zt, znew]; omega
theorem zcls_get {o k ci : Nat} (hz : zcls o k = some ci) (hci : ci < 13) : Cond.classLink (zRn o) k (zRn ci) ∈ zws := by
  unfold zcls at hz
  obtain ⟨q, h1, h2⟩ := Option.map_eq_some_iff.mp hz
  have hm := zlook_mem h1
  have ho : o < 19 := zget_own hm
  have hc := List.all_eq_true.mp (List.all_eq_true.mp zclsK o (List.mem_range.mpr ho)) _ hm
  cases h2
  unfold zclsC at hc
  rw [if_pos hci] at hc
  simp only [Bool.and_eq_true, decide_eq_true_eq] at hc
  exact zws_in hc.1 hc.2
theorem zins_get {ci : Nat} (hci : ci < 13) : Cond.instantiable (zRn ci) (zft ci).length ∈ zws ∧ Cond.initialized (zRn ci) ∈ zws := by
  have hc := List.all_eq_true.mp zinsK ci (List.mem_range.mpr hci)
  simp only [Bool.and_eq_true, decide_eq_true_eq] at hc
  exact ⟨zws_in hc.1.1.1 hc.1.1.2, zws_in hc.1.2 hc.2⟩
theorem zs_new {k ci : Nat} (cx : zX p s m args meth c B sp cA D mi) (hd : decode mi.1 pc = .ok (.new k, 3)) (hz : zcls mi.2.1 k = some ci) (hci : ci < 13) (hcnt : h.2.2.2.2 = 0) (hlen : h.1.1 < 900000) (hr1 : zc (znew h ci (zft ci).length) ≤ c0 + R.cells) (hr2 : zt (znew h ci (zft ci).length) ≤ s0 + R.slots)
    (kk : zK p l e R s m args below meth c Q B sp cA D mi c0 s0 (pc + 3, ls, .inr (.inr (some h.1.1)) :: st, znew h ci (zft ci).length)) : zK p l e R s m args below meth c Q B sp cA D mi c0 s0 (pc, ls, st, h) := by
  intro H locs lA cells slots hR hS hl h1 h2
  obtain ⟨hx, hb, hml, hown, hts, hin, hC⟩ := cx
  have hsz := hR.2.2 hcnt
  dsimp only at h1 h2
  rw [zc_new] at hr1
  rw [zt_new] at hr2
  refine zp_new (fs := zfs B sp (znew h ci (zft ci).length) h.1.1 ci) hx hb hts (zcl_ws hci) (zty ci) (zcl_ty hci) hown (hts _ (zcls_get hz hci)) (hts _ (zins_get hci).1) (hts _ (zins_get hci).2) hC.1 hR.1 hS (zcl_cl hci) (fun j hj => ?_) (by omega) (by omega) hd (fun H1 hz1 hP1 hS1 => ?_)
  · have hk := (zft_get hci hj).1
    have e1 : vp_V (zfs B sp (znew h ci (zft ci).length) h.1.1 ci) j = zcv B sp (zfv (znew h ci (zft ci).length) ci h.1.1 j) := by
      simp [vp_V, List.getD, zfs_get hj]
    rw [e1]
    have e2 : (zft ci).getD j 0 = (zft ci).getD j 9 := by simp [List.getD, hj]
    unfold zfv
    rw [e2]
    unfold zftok at hk
    split at hk
    · next q =>
      rw [q, of_decide_eq_true hk]
      simp [znew, zrow, zcv, defaultValue]
    · next q =>
      rw [q, of_decide_eq_true hk]
      simp [znew, zrow, zcv, defaultValue]
    · next q =>
      rw [q]
      generalize zty ci j = ty at hk
      cases ty <;> first | (cases hk; done) | simp [znew, zrow, zcv, defaultValue, va_rf]
    · cases hk
  · have e3 : zcv B sp (.inr (.inr (some h.1.1))) = .ref H.size := by rw [zcv_ref (by omega), hsz]
    have k' := kk H1 locs lA (cells + 1) (slots + (zft ci).length) ⟨?_, zok_new hR.2.1 (by omega) hlen, fun _ => by rw [hz1, hsz]; simp [znew]; omega⟩ hS1 hl (by show c0 + (cells + 1) = zc (znew h ci (zft ci).length); rw [zc_new]; omega) (by show s0 + (slots + (zft ci).length) = zt (znew h ci (zft ci).length); rw [zt_new]; omega)
    · have k2 : W p l e R s m args below meth c H1 locs (cells + 1) (slots + (zft ci).length) Q (F0 m (pc + 3) lA (zcv B sp (.inr (.inr (some h.1.1))) :: st.map (zcv B sp))) := k'
      rw [e3] at k2
      exact k2
    · show va_P D vwCl (zW B sp cA (znew h ci (zft ci).length)) H1
      rw [zW_new (h := h) (k := ci) (n := (zft ci).length) (fun b hb k n => zE_new hb), zE_obj hci, ← hsz]
      exact hP1
theorem zs_newa {n : Int32} {t : ArrayType} {kd : Nat} (cx : zX p s m args meth c B sp cA D mi) (hd : decode mi.1 pc = .ok (.newarray t, 2)) (ht : (t = .byte ∧ kd = 13) ∨ (t = .int ∧ kd = 14) ∨ (t = .long ∧ kd = 15)) (hcnt : h.2.2.2.2 = 0) (hlen : h.1.1 < 900000) (hn : ¬ n < 0) (hN : n.toNatClampNeg ≤ 100000) (hr1 : zc (znew h kd n.toNatClampNeg) ≤ c0 + R.cells) (hr2 : zt (znew h kd n.toNatClampNeg) ≤ s0 + R.slots)
    (kk : zK p l e R s m args below meth c Q B sp cA D mi c0 s0 (pc + 2, ls, .inr (.inr (some h.1.1)) :: st, znew h kd n.toNatClampNeg)) : zK p l e R s m args below meth c Q B sp cA D mi c0 s0 (pc, ls, .inl n :: st, h) := by
  intro H locs lA cells slots hR hS hl h1 h2
  obtain ⟨hx, hb, hml, hown, hts, hin, hC⟩ := cx
  have hsz := hR.2.2 hcnt
  dsimp only at h1 h2
  rw [zc_new] at hr1
  rw [zt_new] at hr2
  have e3 : zcv B sp (.inr (.inr (some h.1.1))) = .ref H.size := by rw [zcv_ref (by omega), hsz]
  have fin : ∀ (H1 : Heap), kd ≤ 20 → H1.size = H.size + 1 → va_P D vwCl (zW B sp cA h ++ [(H.size, zE B sp cA (znew h kd n.toNatClampNeg) h.1.1 kd n.toNatClampNeg)]) H1 → va_S (zAr B) s.heap H1 locs → W p l e R s m args below meth c H1 locs (cells + 1) (slots + n.toNatClampNeg) Q (F0 m (pc + 2) lA (.ref H.size :: st.map (zcv B sp))) := by
    intro H1 h20 hz1 hP1 hS1
    have k' := kk H1 locs lA (cells + 1) (slots + n.toNatClampNeg) ⟨by
      show va_P D vwCl (zW B sp cA (znew h kd n.toNatClampNeg)) H1
      rw [zW_new (h := h) (k := kd) (n := n.toNatClampNeg) (fun b hb k n => zE_new hb), ← hsz]
      exact hP1, zok_new hR.2.1 h20 hlen, fun _ => by rw [hz1, hsz]; simp [znew]; omega⟩ hS1 hl (by show c0 + (cells + 1) = zc (znew h kd n.toNatClampNeg); rw [zc_new]; omega) (by show s0 + (slots + n.toNatClampNeg) = zt (znew h kd n.toNatClampNeg); rw [zt_new]; omega)
    have k2 : W p l e R s m args below meth c H1 locs (cells + 1) (slots + n.toNatClampNeg) Q (F0 m (pc + 2) lA (zcv B sp (.inr (.inr (some h.1.1))) :: st.map (zcv B sp))) := k'
    rw [e3] at k2
    exact k2
  have z0 : (znew h kd n.toNatClampNeg).2.1 h.1.1 = fun _ => 0 := by funext j; simp [znew, zrow]
  have z1 : (znew h kd n.toNatClampNeg).2.2.1 h.1.1 = fun _ => 0 := by funext j; simp [znew, zrow]
  rcases ht with ⟨rfl, rfl⟩ | ⟨rfl, rfl⟩ | ⟨rfl, rfl⟩
  · refine zp_newa (a0 := (n.toNatClampNeg, .inl (fun _ => 0))) (cX := cA 13) (atype := .byte) hx hb (hts _ zarrK.1) hR.1 hS (hC.1.2 0 _ rfl).2 rfl hn rfl (by show n.toNatClampNeg * 1 ≤ _; omega) (by omega) (by omega) hd (fun H1 hz1 hP1 hS1 => fin H1 (by decide) hz1 ?_ hS1)
    rw [zE_B, z0]
    exact hP1
  · refine zp_newa (a0 := (n.toNatClampNeg, .inl (fun _ => 0))) (cX := cA 14) (atype := .int) hx hb (hts _ zarrK.2.1) hR.1 hS (hC.1.2 1 _ rfl).2 rfl hn rfl (by show n.toNatClampNeg * 4 ≤ _; omega) (by omega) (by omega) hd (fun H1 hz1 hP1 hS1 => fin H1 (by decide) hz1 ?_ hS1)
    rw [zE_I, z0]
    exact hP1
  · refine zp_newa (a0 := (n.toNatClampNeg, .inr (.inl (fun _ => 0)))) (cX := cA 15) (atype := .long) hx hb (hts _ zarrK.2.2) hR.1 hS (hC.1.2 2 _ rfl).2 rfl hn rfl (by show n.toNatClampNeg * 8 ≤ _; omega) (by omega) (by omega) hd (fun H1 hz1 hP1 hS1 => fin H1 (by decide) hz1 ?_ hS1)
    rw [zE_J, z1]
    exact hP1
theorem zak_rc {ci : Nat} (h1 : 16 ≤ zak ci) (h2 : zak ci ≤ 20) : zrc (zak ci) = ci ∧ ci < 13 := by
  unfold zak at h1 h2 ⊢
  split at h1 <;> first | exact ⟨rfl, by decide⟩ | (exact absurd h1 (by decide))
theorem zs_newq {k ci : Nat} {n : Int32} (cx : zX p s m args meth c B sp cA D mi) (hd : decode mi.1 pc = .ok (.anewarray k, 3)) (hz : zcls mi.2.1 k = some ci) (hk1 : 16 ≤ zak ci) (hk2 : zak ci ≤ 20) (hcnt : h.2.2.2.2 = 0) (hlen : h.1.1 < 900000) (hn : ¬ n < 0) (hN : n.toNatClampNeg ≤ 100000) (hr1 : zc (znew h (zak ci) n.toNatClampNeg) ≤ c0 + R.cells) (hr2 : zt (znew h (zak ci) n.toNatClampNeg) ≤ s0 + R.slots)
    (kk : zK p l e R s m args below meth c Q B sp cA D mi c0 s0 (pc + 3, ls, .inr (.inr (some h.1.1)) :: st, znew h (zak ci) n.toNatClampNeg)) : zK p l e R s m args below meth c Q B sp cA D mi c0 s0 (pc, ls, .inl n :: st, h) := by
  intro H locs lA cells slots hR hS hl h1 h2
  obtain ⟨hx, hb, hml, hown, hts, hin, hC⟩ := cx
  have hsz := hR.2.2 hcnt
  dsimp only at h1 h2
  rw [zc_new] at hr1
  rw [zt_new] at hr2
  obtain ⟨hrc, hci⟩ := zak_rc hk1 hk2
  have hAO := hC.2.2.2.1 (zak ci) hk1 hk2
  rw [hrc] at hAO
  have hty := ztys_R (cA := cA) hk1 hk2
  rw [hrc] at hty
  obtain ⟨kA, comp, -, -, -, hfc⟩ := (hC.1.2 _ _ hty).2
  have e3 : zcv B sp (.inr (.inr (some h.1.1))) = .ref H.size := by rw [zcv_ref (by omega), hsz]
  have z2 : (fun j => ((znew h (zak ci) n.toNatClampNeg).2.2.2.1 h.1.1 j).map (zad B sp)) = fun _ => none := by funext j; simp [znew, zrow]
  refine zp_newq (cX := cA (zak ci)) hx hb hown (hts _ (zcls_get hz hci)) hAO hR.1 hS hfc hn rfl (by omega) (by omega) (by omega) hd (fun H1 hz1 hP1 hS1 => ?_)
  have k' := kk H1 locs lA (cells + 1) (slots + n.toNatClampNeg) ⟨by
    show va_P D vwCl (zW B sp cA (znew h (zak ci) n.toNatClampNeg)) H1
    rw [zW_new (h := h) (k := (zak ci)) (n := n.toNatClampNeg) (fun b hb k n => zE_new hb), ← hsz, zE_R hk1, z2]
    exact hP1, zok_new hR.2.1 hk2 hlen, fun _ => by rw [hz1, hsz]; simp [znew]; omega⟩ hS1 hl (by show c0 + (cells + 1) = zc (znew h (zak ci) n.toNatClampNeg); rw [zc_new]; omega) (by show s0 + (slots + n.toNatClampNeg) = zt (znew h (zak ci) n.toNatClampNeg); rw [zt_new]; omega)
  have k2 : W p l e R s m args below meth c H1 locs (cells + 1) (slots + n.toNatClampNeg) Q (F0 m (pc + 3) lA (zcv B sp (.inr (.inr (some h.1.1))) :: st.map (zcv B sp))) := k'
  rw [e3] at k2
  exact k2
end ZS4
end Pk1
section Pk2
/-! calls -/
def zPc (B : Nat) (sp : Nat → Nat) (cA : Nat → ClassId) (D : va_G) (vs : List zV) (h : zH) : Array Value → State → Prop := va_Pc (vs.map (zcv B sp)) (fun U => zCx B sp cA D U ∧ zRel B sp cA D h U.heap)
def zQc (B : Nat) (sp : Nat → Nat) (cA : Nat → ClassId) (D : va_G) (v : Option zV) (h' : zH) : Array Value → State → Outcome → State → Prop := match v with
  | none => va_Qv (S := Unit) (fun _ => True) (fun _ t => zRel B sp cA D h' t.heap) (zAr B)
  | some (.inl x) => va_Qi (S := Unit) (fun r _ => r = x) (fun _ t => zRel B sp cA D h' t.heap) (zAr B)
  | some (.inr (.inl x)) => va_Ql (S := Unit) (fun r _ => r = x) (fun _ t => zRel B sp cA D h' t.heap) (zAr B)
  | some (.inr (.inr _)) => fun _ _ _ _ => False
def zrm (d mc ms : Nat) : Room := { frames := d + 4, cells := mc, slots := ms, locals := 60 * (d + 4) }
def zMet (l : Launch) (B : Nat) (sp : Nat → Nat) (cA : Nat → ClassId) (D : va_G) (d : Nat) (cm : zM) (vs : List zV) (h : zH) (v : Option zV) (h' : zH) : Prop :=
  Met l cm.2.2.2.2.1 (zwsM cm) (zrm d (zc h' - zc h) (zt h' - zt h)) (zPc B sp cA D vs h) (zQc B sp cA D v h') (zc h' - zc h) (zt h' - zt h) (zAr B)
theorem zPc_blind {B : Nat} {sp : Nat → Nat} {cA : Nat → ClassId} {D : va_G} {vs : List zV} {h : zH} : FrameBlind (zPc B sp cA D vs h) := by
  intro a U g mk q
  obtain ⟨q0, q1, q2⟩ := q
  exact ⟨q0, ⟨va_K.moved (u := U) (U := U.calling g mk a) (Vm.Alike.refl U.vm) q1.1, fun x hx => va_Nw.same rfl rfl (q1.2.1 x hx), fun x hx => vk_R.same rfl (q1.2.2.1 x hx), fun k h1 h2 => va_AO.moved (u := U) (U := U.calling g mk a) (Vm.Alike.refl U.vm) (q1.2.2.2.1 k h1 h2), q1.2.2.2.2.1, zSg.moved (u := U) (U := U.calling g mk a) (Vm.Alike.refl U.vm) q1.2.2.2.2.2.1, va_Nw.same rfl rfl q1.2.2.2.2.2.2⟩, q2⟩
section ZS5
variable {p : Program} {l : Launch} {e : Env} {R : Room} {s : State} {m : MethodId} {args : Array Value} {below : List Frame} {meth : Method} {c : Code} {Q : State → Prop} {B : Nat} {sp : Nat → Nat} {cA : Nat → ClassId} {D : va_G} {mi : zM} {c0 s0 : Nat}
variable {pc len : Nat} {ls : zL} {st : List zV} {h : zH}
theorem zmth_get {o k kd na : Nat} {cm : zM} (hz : zmth o k = some (kd, na, cm)) : ∃ pl pi ps pn : Nat, zmthC o (k, kd, na, cm, pl, pi, ps, pn) = true ∧ (kd < 5 → zMok cm) := by
  unfold zmth at hz
  obtain ⟨q, h1, h2⟩ := Option.map_eq_some_iff.mp hz
  have hm := zlook_mem h1
  have ho : o < 19 := zget_own hm
  have hc := List.all_eq_true.mp (zmthK o ho) _ hm
  have hM := zmM o ho _ hm
  obtain ⟨a, b, cc, d1, d2, d3, d4⟩ := q
  cases h2
  exact ⟨d1, d2, d3, d4, hc, hM⟩
/-- the words that a callee needs hold whenever the tables have been warmed -/
theorem zws_pay (hts : ∀ w ∈ zws, w.before args s = true) {cm : zM} (hM : zMok cm) : ∀ w ∈ zwsM cm, ∀ (a' : Array Value) (U : State), s.WarmedH U.vm → w.before a' U = true := by
  intro w hw a' U hW
  have hw' : w ∈ zws := by
    rcases List.mem_cons.mp hw with rfl | q
    · exact hM.1
    · exact q
  exact word_at hW (zws_good w hw') (hts w hw')
theorem zs_after {v : Option zV} {h' : zH} {rest : List zV} {H : Heap} {locs : List Loc} {lA : Array Slot} {cells slots : Nat} {a : Array Value} {st0 : List Value} (hle1 : zc h ≤ zc h') (hle2 : zt h ≤ zt h') (h1 : c0 + cells = zc h) (h2 : s0 + slots = zt h) (hS : va_S (zAr B) s.heap H locs) (hl : lv_has lA mi.2.2.1 (zlv B sp ls))
    (hr : va_Run p l e R s m args below meth c H locs cells slots (zc h' - zc h) (zt h' - zt h) (F0 m pc lA st0) (rest.map (zcv B sp)) (zQc B sp cA D v h' a) (zAr B))
    (kk : zK p l e R s m args below meth c Q B sp cA D mi c0 s0 (pc + 3, ls, v.toList ++ rest, h')) : W p l e R s m args below meth c H locs cells slots Q (F0 m pc lA st0) := by
  match v, hr, kk with
  | none, hr, kk =>
    refine va_callv (a := a) hr hS (fun q _ h => h) (fun q h => h) (fun u t H1 locs1 ht hvm hw hB hz1 hk1 hS1 => ?_)
    exact kk H1 locs1 lA _ _ (by rw [← ht]; exact hB) hS1 hl (by show c0 + (cells + (zc h' - zc h)) = zc h'; omega) (by show s0 + (slots + (zt h' - zt h)) = zt h'; omega)
  | some (.inl x), hr, kk =>
    refine va_calli (a := a) hr hS (fun q _ h => h) (fun q h => h) (fun r u t H1 locs1 ht hvm hw hB hz1 hk1 hS1 => ?_)
    have hw : r = x := hw
    subst hw
    exact kk H1 locs1 lA _ _ (by rw [← ht]; exact hB) hS1 hl (by show c0 + (cells + (zc h' - zc h)) = zc h'; omega) (by show s0 + (slots + (zt h' - zt h)) = zt h'; omega)
  | some (.inr (.inl x)), hr, kk =>
    refine va_calll (a := a) hr hS (fun q _ h => h) (fun q h => h) (fun r u t H1 locs1 ht hvm hw hB hz1 hk1 hS1 => ?_)
    have hw : r = x := hw
    subst hw
    exact kk H1 locs1 lA _ _ (by rw [← ht]; exact hB) hS1 hl (by show c0 + (cells + (zc h' - zc h)) = zc h'; omega) (by show s0 + (slots + (zt h' - zt h)) = zt h'; omega)
  | some (.inr (.inr r)), hr, kk =>
    intro T hT X
    obtain ⟨v, st₀, t, T', L, h0, X', hL, e1, e2, hq, st⟩ := hr T hT X
    exact hq.elim
theorem zs_call {k kd na d' : Nat} {cm : zM} {i : Instr} {v : Option zV} {h' : zH} {g : zC} (cx : zX p s m args meth c B sp cA D mi) (hd : decode mi.1 pc = .ok (i, 3)) (hi : (i = .invokevirtual k ∧ kd = 0) ∨ (i = .invokestatic k ∧ (kd = 1 ∨ kd = 3)) ∨ (i = .invokespecial k ∧ (kd = 2 ∨ kd = 4))) (hz : zmth mi.2.1 k = some (kd, na, cm))
    (call : zM → List zV → zH → Option zR) (hc : zcall call cm kd na pc ls st h = some (.inl g)) (hcall : ∀ vs v h', call cm vs h = some (v, h') → zMet l B sp cA D d' cm vs h v h' ∧ zc h ≤ zc h' ∧ zt h ≤ zt h')
    (hr1 : zc g.2.2.2 ≤ c0 + R.cells) (hr2 : zt g.2.2.2 ≤ s0 + R.slots) (hf : d' + 5 ≤ R.frames) (hlo : 60 * (d' + 5) ≤ R.locals)
    (kk : zK p l e R s m args below meth c Q B sp cA D mi c0 s0 g) : zK p l e R s m args below meth c Q B sp cA D mi c0 s0 (pc, ls, st, h) := by
  intro H locs lA cells slots hR hS hl h1 h2
  dsimp only at h1 h2 hl hR
  obtain ⟨hx, hb, hml, hown, hts, hin, hC⟩ := cx
  obtain ⟨pl, pi, ps, pn, hcc, hMk⟩ := zmth_get hz
  have hkd : kd < 5 := by rcases hi with ⟨-, q⟩ | ⟨-, q | q⟩ | ⟨-, q | q⟩ <;> omega
  have hM := hMk hkd
  unfold zcall at hc
  split at hc
  · next hlen =>
    obtain ⟨hna, hwd⟩ := hlen
    have hst : st = (st.take na).reverse.reverse ++ st.drop na := by rw [List.reverse_reverse, List.take_append_drop]
    have hvl : (st.take na).reverse.length = na := by simp; omega
    generalize hvs : (st.take na).reverse = vs at hc hst hvl
    generalize hrs : st.drop na = rest at hc hst hwd
    have hBody : ∀ U : State, U.heap = H → s.WarmedH U.vm → zPc B sp cA D vs h (vs.map (zcv B sp)).toArray U := fun U hU hW => ⟨rfl, hC.warm hW (by rw [hU]; exact Nat.le_trans hC.2.2.2.2.1 hS.1) (fun a h1 h2 => by rw [hU]; exact hS.2.1 a h1 h2), by rw [hU]; exact hR⟩
    have hroom : 2 * (F0 m pc lA (st.map (zcv B sp))).monitorRoom + ((rest.map (zcv B sp)).map fun v => v.category).sum ≤ 8 := by
      show 2 * 0 + _ ≤ 8
      rw [zwd_cv]
      omega
    have hB : ∀ {mc ms n : Nat} {rm : Room}, rm.cells = mc → rm.slots = ms → rm.frames = d' + 4 → rm.locals = 60 * (d' + 4) → (Cond.methodLink (zRn mi.2.1) k cm.2.2.2.2.1).before args s = true → (Cond.initialized cm.2.2.2.2.1.cls).before args s = true → (parseMethodDescriptor cm.2.2.2.2.1.desc).map (fun d => d.parameters.length) = some n →
        CallB R s args (zRn mi.2.1) k cm.2.2.2.2.1 cm.1 cm.2.2.1 cm.2.2.2.1 (zwsM cm) rm mc ms n := by
      intro mc ms n rm e1 e2 e3 e4 hl hini hp
      refine ⟨e1, e2, by omega, by have := hM.2.2.2.2.1; omega, zws_pay hts hM, List.mem_cons_self, hts _ hM.1, hini, hM.2.2.2.1, fun sig hs => ?_, hl⟩
      rw [hs] at hp
      exact (Option.some.inj hp).symm
    have hN : ∀ {mc ms n : Nat} {rm : Room} {host : String}, rm.cells = mc → rm.slots = ms → rm.frames = d' + 4 → rm.locals = 60 * (d' + 4) → (Cond.methodLinkNest (zRn mi.2.1) k cm.2.2.2.2.1 host).before args s = true → (Cond.initialized cm.2.2.2.2.1.cls).before args s = true → (parseMethodDescriptor cm.2.2.2.2.1.desc).map (fun d => d.parameters.length) = some n →
        va_CN R s args (zRn mi.2.1) k cm.2.2.2.2.1 host cm.1 cm.2.2.1 cm.2.2.2.1 (zwsM cm) rm mc ms n := by
      intro mc ms n rm host e1 e2 e3 e4 hl hini hp
      refine ⟨⟨e1, e2, by omega, by have := hM.2.2.2.2.1; omega, zws_pay hts hM, List.mem_cons_self⟩, hts _ hM.1, hini, hM.2.2.2.1, fun sig hs => ?_, hl⟩
      rw [hs] at hp
      exact (Option.some.inj hp).symm
    have hFix : CallFix p m c mi.1 mi.2.2.1 s args zws (zRn mi.2.1) := ⟨hx, hb, hml, hown, hts⟩
    have one : ∀ {x : Nat}, (parseMethodDescriptor cm.2.2.2.2.1.desc).map (fun d => d.parameters.length + 1) = some (x + 1) → (parseMethodDescriptor cm.2.2.2.2.1.desc).map (fun d => d.parameters.length) = some x := by
      intro x hx
      cases hpd : parseMethodDescriptor cm.2.2.2.2.1.desc with
      | none => rw [hpd] at hx; cases hx
      | some sig => rw [hpd] at hx; simp only [Option.map_some, Option.some.injEq] at hx ⊢; omega
    rcases hi with ⟨rfl, rfl⟩ | ⟨rfl, hk⟩ | ⟨rfl, hk⟩
    · -- virtual
      rw [if_neg (by decide)] at hc
      split at hc
      · next a vt =>
        split at hc
        · next k2 n2 hq =>
          split at hc
          · next hk2 =>
            obtain ⟨rfl, hci⟩ := hk2
            split at hc
            · next r h'' hcl =>
              cases hc
              obtain ⟨hMet, hle1, hle2⟩ := hcall _ _ _ hcl
              dsimp only at hr1 hr2
              simp only [zmthC, Bool.and_eq_true, decide_eq_true_eq] at hcc
              obtain ⟨⟨⟨⟨⟨⟨⟨⟨w1, g1⟩, w2⟩, g2⟩, w3⟩, g3⟩, w4⟩, g4⟩, w5⟩ := hcc
              have hlv : vt.length + 1 = na := by simpa using hvl
              rw [← hlv] at w5
              have hWq := zW_get (B := B) (sp := sp) (cA := cA) hq
              rw [zE_obj hci] at hWq
              refine zs_after (rest := rest) (a := (Value.ref (B + a) :: vt.map (zcv B sp)).toArray) hle1 hle2 h1 h2 hS hl ?_ kk
              exact va_runV (C := zRn cm.2.1) (b := B + a) (As := vt.map (zcv B sp)) (rest := rest.map (zcv B sp)) (g := F0 m pc lA (st.map (zcv B sp))) (n := vt.length) hFix hMet ⟨hB rfl rfl rfl rfl (hts _ (zws_in w1 g1)) (hts _ (zws_in w4 g4)) (one w5), hts _ (zws_in w2 g2), hts _ (zws_in w3 g3)⟩
                ⟨zPc_blind, va_recv hC.1 hR.1 (zcl_cl hci) hWq, fun U hU hW => by
                  have := hBody U hU hW
                  rw [List.map_cons, zcv_ref (zok_lt hR.2.1 hq)] at this
                  exact this⟩ rfl (by simp) hl.1 (by
                  show st.map (zcv B sp) = _
                  rw [hst]
                  simp [zcv_ref (zok_lt hR.2.1 hq)]) hroom hd ⟨by omega, by omega⟩
            · cases hc
          · cases hc
        · cases hc
      · cases hc
    · -- static
      rw [if_pos hk] at hc
      split at hc
      · next r h'' hcl =>
        cases hc
        obtain ⟨hMet, hle1, hle2⟩ := hcall _ _ _ hcl
        dsimp only at hr1 hr2
        refine zs_after (rest := rest) (a := (vs.map (zcv B sp)).toArray) hle1 hle2 h1 h2 hS hl ?_ kk
        have hstk : (F0 m pc lA (st.map (zcv B sp))).stack = (vs.map (zcv B sp)).reverse ++ rest.map (zcv B sp) := by
          show st.map (zcv B sp) = _
          rw [hst]
          simp
        rcases hk with rfl | rfl
        · simp only [zmthC, Bool.and_eq_true, decide_eq_true_eq] at hcc
          obtain ⟨⟨⟨⟨⟨⟨w1, g1⟩, w2⟩, g2⟩, w4⟩, g4⟩, w5⟩ := hcc
          exact va_runS (As := vs.map (zcv B sp)) (rest := rest.map (zcv B sp)) (g := F0 m pc lA (st.map (zcv B sp))) (n := na) hFix hMet ⟨hB rfl rfl rfl rfl (hts _ (zws_in w1 g1)) (hts _ (zws_in w4 g4)) w5, hts _ (zws_in w2 g2)⟩
            ⟨zPc_blind, hBody⟩ rfl (by simp; exact hvl) hl.1 hstk hroom hd ⟨by omega, by omega⟩
        · simp only [zmthC, Bool.and_eq_true, decide_eq_true_eq, List.any_eq_true] at hcc
          obtain ⟨⟨⟨⟨⟨⟨q, hq, ⟨e1, e2⟩, e3⟩, w2⟩, g2⟩, w4⟩, g4⟩, w5⟩ := hcc
          have hnw := va_Nw.use (A := args) rfl (hC.2.1 q hq)
          rw [e1, e2, e3] at hnw
          exact va_runSN (As := vs.map (zcv B sp)) (rest := rest.map (zcv B sp)) (g := F0 m pc lA (st.map (zcv B sp))) (n := na) hFix hMet ⟨hN rfl rfl rfl rfl hnw (hts _ (zws_in w4 g4)) w5, hts _ (zws_in w2 g2), trivial⟩
            ⟨zPc_blind, hBody⟩ rfl (by simp; exact hvl) hl.1 hstk hroom hd ⟨by omega, by omega⟩
      · cases hc
    · -- constructors
      rw [if_neg (by rcases hk with rfl | rfl <;> decide)] at hc
      split at hc
      · next a vt =>
        split at hc
        · next k2 n2 hq =>
          split at hc
          · next hk2 =>
            obtain ⟨rfl, hci⟩ := hk2
            split at hc
            · next r h'' hcl =>
              cases hc
              obtain ⟨hMet, hle1, hle2⟩ := hcall _ _ _ hcl
              dsimp only at hr1 hr2
              have hlv : vt.length + 1 = na := by simpa using hvl
              have hstk : (F0 m pc lA (st.map (zcv B sp))).stack = (vt.map (zcv B sp)).reverse ++ .ref (B + a) :: rest.map (zcv B sp) := by
                show st.map (zcv B sp) = _
                rw [hst]
                simp [zcv_ref (zok_lt hR.2.1 hq)]
              have hBody' : ∀ U : State, U.heap = H → s.WarmedH U.vm → zPc B sp cA D (.inr (.inr (some a)) :: vt) h (Value.ref (B + a) :: vt.map (zcv B sp)).toArray U := fun U hU hW => by
                have := hBody U hU hW
                rw [List.map_cons, zcv_ref (zok_lt hR.2.1 hq)] at this
                exact this
              refine zs_after (rest := rest) (a := (Value.ref (B + a) :: vt.map (zcv B sp)).toArray) hle1 hle2 h1 h2 hS hl ?_ kk
              rcases hk with rfl | rfl
              · simp only [zmthC, Bool.and_eq_true, decide_eq_true_eq] at hcc
                obtain ⟨⟨⟨⟨⟨⟨⟨⟨w1, g1⟩, w2⟩, g2⟩, w4⟩, g4⟩, w5⟩, w6⟩, w7⟩ := hcc
                rw [← hlv] at w5
                have hB1 := hB (mc := zc h'' - zc h) (ms := zt h'' - zt h) (rm := zrm d' (zc h'' - zc h) (zt h'' - zt h)) rfl rfl rfl rfl (hts _ (zws_in w1 g1)) (hts _ (zws_in w4 g4)) (one w5)
                rw [w7] at hB1
                exact va_runI (b := B + a) (As := vt.map (zcv B sp)) (rest := rest.map (zcv B sp)) (g := F0 m pc lA (st.map (zcv B sp))) (n := vt.length) hFix hMet ⟨hB1, w6, hts _ (zws_in w2 g2)⟩
                  ⟨zPc_blind, hBody'⟩ rfl (by simp) hl.1 hstk hroom hd ⟨by omega, by omega⟩
              · simp only [zmthC, Bool.and_eq_true, decide_eq_true_eq, List.any_eq_true] at hcc
                obtain ⟨⟨⟨⟨⟨⟨⟨⟨q, hqm, ⟨e1, e2⟩, e3⟩, w2⟩, g2⟩, w4⟩, g4⟩, w5⟩, w6⟩, w7⟩ := hcc
                have hnw := va_Nw.use (A := args) rfl (hC.2.1 q hqm)
                rw [e1, e2, e3] at hnw
                rw [← hlv] at w5
                have hN1 := hN (mc := zc h'' - zc h) (ms := zt h'' - zt h) (rm := zrm d' (zc h'' - zc h) (zt h'' - zt h)) rfl rfl rfl rfl hnw (hts _ (zws_in w4 g4)) (one w5)
                rw [w7] at hN1
                exact va_runIN (b := B + a) (As := vt.map (zcv B sp)) (rest := rest.map (zcv B sp)) (g := F0 m pc lA (st.map (zcv B sp))) (n := vt.length) hFix hMet ⟨hN1, w6, hts _ (zws_in w2 g2)⟩
                  ⟨zPc_blind, hBody'⟩ rfl (by simp) hl.1 hstk hroom hd ⟨by omega, by omega⟩
            · cases hc
          · cases hc
        · cases hc
      · cases hc
  · cases hc
end ZS5
end Pk2
section Pk3
/-! String.length and String.charAt on the constants: contracts of the JDK's own -/
theorem dj_len0 : decode cJ0_length_8abf5 0 = .ok (.aload_n 0, 1) := by decide +kernel
theorem dj_len1 : decode cJ0_length_8abf5 1 = .ok (.getfield 9, 3) := by decide +kernel
theorem dj_len4 : decode cJ0_length_8abf5 4 = .ok (.arraylength, 1) := by decide +kernel
theorem dj_len5 : decode cJ0_length_8abf5 5 = .ok (.aload_n 0, 1) := by decide +kernel
theorem dj_len6 : decode cJ0_length_8abf5 6 = .ok (.invokevirtual 335, 3) := by decide +kernel
theorem dj_len9 : decode cJ0_length_8abf5 9 = .ok (.ishr, 1) := by decide +kernel
theorem dj_len10 : decode cJ0_length_8abf5 10 = .ok (.ireturn, 1) := by decide +kernel
theorem dj_ch0 : decode cJ0_charAt_5068e 0 = .ok (.aload_n 0, 1) := by decide +kernel
theorem dj_ch1 : decode cJ0_charAt_5068e 1 = .ok (.invokevirtual 492, 3) := by decide +kernel
theorem dj_ch4 : decode cJ0_charAt_5068e 4 = .ok (.ifCond .eq 12, 3) := by decide +kernel
theorem dj_ch7 : decode cJ0_charAt_5068e 7 = .ok (.aload_n 0, 1) := by decide +kernel
theorem dj_ch8 : decode cJ0_charAt_5068e 8 = .ok (.getfield 9, 3) := by decide +kernel
theorem dj_ch11 : decode cJ0_charAt_5068e 11 = .ok (.iload_n 1, 1) := by decide +kernel
theorem dj_ch12 : decode cJ0_charAt_5068e 12 = .ok (.invokestatic 495, 3) := by decide +kernel
theorem dj_ch15 : decode cJ0_charAt_5068e 15 = .ok (.ireturn, 1) := by decide +kernel
theorem dj_co0 : decode cJ0_coder_7d493 0 = .ok (.getstatic 38, 3) := by decide +kernel
theorem dj_co3 : decode cJ0_coder_7d493 3 = .ok (.ifCond .eq 10, 3) := by decide +kernel
theorem dj_co6 : decode cJ0_coder_7d493 6 = .ok (.aload_n 0, 1) := by decide +kernel
theorem dj_co7 : decode cJ0_coder_7d493 7 = .ok (.getfield 15, 3) := by decide +kernel
theorem dj_co10 : decode cJ0_coder_7d493 10 = .ok (.goto 4, 3) := by decide +kernel
theorem dj_co14 : decode cJ0_coder_7d493 14 = .ok (.ireturn, 1) := by decide +kernel
theorem dj_la0 : decode cJ0_isLatin1_aae02 0 = .ok (.getstatic 38, 3) := by decide +kernel
theorem dj_la3 : decode cJ0_isLatin1_aae02 3 = .ok (.ifCond .eq 14, 3) := by decide +kernel
theorem dj_la6 : decode cJ0_isLatin1_aae02 6 = .ok (.aload_n 0, 1) := by decide +kernel
theorem dj_la7 : decode cJ0_isLatin1_aae02 7 = .ok (.getfield 15, 3) := by decide +kernel
theorem dj_la10 : decode cJ0_isLatin1_aae02 10 = .ok (.ifCond .ne 7, 3) := by decide +kernel
theorem dj_la13 : decode cJ0_isLatin1_aae02 13 = .ok (.iconst 1, 1) := by decide +kernel
theorem dj_la14 : decode cJ0_isLatin1_aae02 14 = .ok (.goto 4, 3) := by decide +kernel
theorem dj_la18 : decode cJ0_isLatin1_aae02 18 = .ok (.ireturn, 1) := by decide +kernel
theorem dj_ck0 : decode cJ0_checkIndex_df160 0 = .ok (.iload_n 0, 1) := by decide +kernel
theorem dj_ck1 : decode cJ0_checkIndex_df160 1 = .ok (.iload_n 1, 1) := by decide +kernel
theorem dj_ck2 : decode cJ0_checkIndex_df160 2 = .ok (.getstatic 1053, 3) := by decide +kernel
theorem dj_ck5 : decode cJ0_checkIndex_df160 5 = .ok (.invokestatic 1059, 3) := by decide +kernel
theorem dj_ck8 : decode cJ0_checkIndex_df160 8 = .ok (.pop, 1) := by decide +kernel
theorem dj_ck9 : decode cJ0_checkIndex_df160 9 = .ok (.return_, 1) := by decide +kernel
theorem dj_c10 : decode cJ1_charAt_3b067 0 = .ok (.iload_n 1, 1) := by decide +kernel
theorem dj_c11 : decode cJ1_charAt_3b067 1 = .ok (.aload_n 0, 1) := by decide +kernel
theorem dj_c12 : decode cJ1_charAt_3b067 2 = .ok (.arraylength, 1) := by decide +kernel
theorem dj_c13 : decode cJ1_charAt_3b067 3 = .ok (.invokestatic 9, 3) := by decide +kernel
theorem dj_c16 : decode cJ1_charAt_3b067 6 = .ok (.aload_n 0, 1) := by decide +kernel
theorem dj_c17 : decode cJ1_charAt_3b067 7 = .ok (.iload_n 1, 1) := by decide +kernel
theorem dj_c18 : decode cJ1_charAt_3b067 8 = .ok (.baload, 1) := by decide +kernel
theorem dj_c19 : decode cJ1_charAt_3b067 9 = .ok (.sipush 255, 3) := by decide +kernel
theorem dj_c1_12 : decode cJ1_charAt_3b067 12 = .ok (.iand, 1) := by decide +kernel
theorem dj_c1_13 : decode cJ1_charAt_3b067 13 = .ok (.i2c, 1) := by decide +kernel
theorem dj_c1_14 : decode cJ1_charAt_3b067 14 = .ok (.ireturn, 1) := by decide +kernel
theorem dj_c30 : decode cJ3_checkIndex_8e157 0 = .ok (.iload_n 0, 1) := by decide +kernel
theorem dj_c31 : decode cJ3_checkIndex_8e157 1 = .ok (.ifCond .lt 8, 3) := by decide +kernel
theorem dj_c34 : decode cJ3_checkIndex_8e157 4 = .ok (.iload_n 0, 1) := by decide +kernel
theorem dj_c35 : decode cJ3_checkIndex_8e157 5 = .ok (.iload_n 1, 1) := by decide +kernel
theorem dj_c36 : decode cJ3_checkIndex_8e157 6 = .ok (.if_icmp .lt 10, 3) := by decide +kernel
theorem dj_c3_16 : decode cJ3_checkIndex_8e157 16 = .ok (.iload_n 0, 1) := by decide +kernel
theorem dj_c3_17 : decode cJ3_checkIndex_8e157 17 = .ok (.ireturn, 1) := by decide +kernel
def zrm0 (fr : Nat) : Room := { frames := fr, cells := 0, slots := 0, locals := 60 * fr }
def zPs (B : Nat) (sp : Nat → Nat) (H0 : Heap) (vs : List Value) : Array Value → State → Prop := va_Pc vs (fun U => zSg B sp U U.heap ∧ U.heap = H0)
def zQs (H0 : Heap) (x : Int32) : Array Value → State → Outcome → State → Prop := va_Qi (S := Unit) (fun r _ => r = x) (fun _ t => t.heap = H0) (fun _ => False)
def zQn (H0 : Heap) : Array Value → State → Outcome → State → Prop := va_Qv (S := Unit) (fun _ => True) (fun _ t => t.heap = H0) (fun _ => False)
theorem zPs_blind {B : Nat} {sp : Nat → Nat} {H0 : Heap} {vs : List Value} : FrameBlind (zPs B sp H0 vs) := by
  intro a U g mk q
  obtain ⟨q0, q1, q2⟩ := q
  exact ⟨q0, zSg.moved (u := U) (U := U.calling g mk a) (Vm.Alike.refl U.vm) q1, q2⟩
theorem zsc_all : zscT.all (fun q => decide (1000000 ≤ q.1) && (decide (q.2.length < 100) && q.2.all (fun b => decide ((b &&& 255) = b) && (decide (narrow .char (.int b) = .int b) && decide ((b.toUInt32 % 65536).toInt32 = b))))) = true := by decide +kernel
theorem zsc_get {a : Nat} {bs : List Int32} (h : zsc a = some bs) : 1000000 ≤ a ∧ bs.length < 100 ∧ ∀ b ∈ bs, (b &&& 255) = b ∧ narrow .char (.int b) = .int b ∧ (b.toUInt32 % 65536).toInt32 = b := by
  have := List.all_eq_true.mp zsc_all _ (zlook_mem h)
  simp only [Bool.and_eq_true, decide_eq_true_eq, List.all_eq_true] at this
  exact ⟨this.1, this.2.1, fun b hb => this.2.2 b hb⟩
theorem va_S.wk {A A' : Nat → Prop} {H0 H : Heap} {locs : List Loc} (h : va_S A H0 H locs) (hA : ∀ q, A q → A' q) : va_S A' H0 H locs := ⟨h.1, fun q h1 h2 => h.2.1 q h1 (fun z => h2 (hA q z)), fun l hl => hA _ (h.2.2 l hl)⟩
section ZSTR
variable {p : Program} {l : Launch} {e : Env} {R : Room} {s : State} {m : MethodId} {args : Array Value} {below : List Frame} {meth : Method} {c : Code} {H : Heap} {locs : List Loc} {cells slots : Nat} {Q : State → Prop}
variable {cc : ByteArray} {nL pc : Nat} {own : String} {lA : Array Slot} {B : Nat} {sp : Nat → Nat} {cm : zM} {a k fr : Nat} {bs : List Int32} {As rest : List Value} {x : Int32} {A0 : Nat → Prop}
theorem zj_B {n : Nat} (hts : ∀ w ∈ zws, w.before args s = true) (hM : zMok cm) (hfr : fr + 1 ≤ R.frames) (hlo : 60 * fr + 60 ≤ R.locals) (w1 : (Cond.methodLink own k cm.2.2.2.2.1) ∈ zws) (w4 : Cond.initialized cm.2.2.2.2.1.cls ∈ zws) (w5 : (parseMethodDescriptor cm.2.2.2.2.1.desc).map (fun d => d.parameters.length) = some n) :
    CallB R s args own k cm.2.2.2.2.1 cm.1 cm.2.2.1 cm.2.2.2.1 (zwsM cm) (zrm0 fr) 0 0 n := by
  refine ⟨rfl, rfl, hfr, ?_, zws_pay hts hM, List.mem_cons_self, hts _ hM.1, hts _ w4, hM.2.2.2.1, fun sig hs => ?_, hts _ w1⟩
  · have := hM.2.2.2.2.1
    show 8 + (cm.2.2.1 + 11) + 60 * fr ≤ R.locals
    omega
  · rw [hs] at w5
    exact (Option.some.inj w5).symm
theorem zSg.at {U : State} (hG : zSg B sp s s.heap) (hS : va_S (zAr B) s.heap H locs) (hU : U.heap = H) (hW : s.WarmedH U.vm) : zSg B sp U U.heap :=
  zSg.moved hW.alike (hG.kept (fun a h1 h2 => by rw [hU]; exact hS.2.1 a h1 h2))
/-- a call on a constant text -/
theorem zj_V (hFix : CallFix p m c cc nL s args zws own) (hM : zMok cm) (hG : zSg B sp s s.heap) (hA : ∀ q, A0 q → zAr B q) (hS : va_S A0 s.heap H locs) (hz : zsc a = some bs)
    (hMet : Met l cm.2.2.2.2.1 (zwsM cm) (zrm0 fr) (zPs B sp H (.ref (sp a) :: As)) (zQs H x) 0 0 (fun _ => False))
    (w1 : (Cond.methodLink own k cm.2.2.2.2.1) ∈ zws) (w2 : Cond.instanceMethod cm.2.2.2.2.1 ∈ zws) (w3 : Cond.selects "java/lang/String" cm.2.2.2.2.1 cm.2.2.2.2.1 ∈ zws) (w4 : Cond.initialized cm.2.2.2.2.1.cls ∈ zws) (w5 : (parseMethodDescriptor cm.2.2.2.2.1.desc).map (fun d => d.parameters.length) = some As.length)
    (hsz : lA.size = nL) (hw : (rest.map fun v => v.category).sum ≤ 8) (hfr : fr + 1 ≤ R.frames) (hlo : 60 * fr + 60 ≤ R.locals) (hc : cells ≤ R.cells ∧ slots ≤ R.slots) (hd : decode cc pc = .ok (.invokevirtual k, 3))
    (kk : ∀ locs1, va_S A0 s.heap H locs1 → W p l e R s m args below meth c H locs1 cells slots Q (F0 m (pc + 3) lA (.int x :: rest))) :
    W p l e R s m args below meth c H locs cells slots Q (F0 m pc lA (As.reverse ++ .ref (sp a) :: rest)) := by
  have hSz := hS.wk hA
  obtain ⟨t, q1, q2, q3, q4⟩ := hG.1 a bs hz
  obtain ⟨cell, c1, c2, c3, -⟩ := q1.kept hSz.2.1
  have hr := va_runV (C := "java/lang/String") (b := sp a) (As := As) (rest := rest) (g := F0 m pc lA (As.reverse ++ .ref (sp a) :: rest)) (n := As.length) (H := H) (locs := locs) (cells := cells) (slots := slots) (e := e) (below := below) (meth := meth) hFix hMet ⟨zj_B hFix.2.2.2.2 hM hfr hlo w1 w4 w5, hFix.2.2.2.2 _ w2, hFix.2.2.2.2 _ w3⟩
    ⟨zPs_blind, ⟨cell, c1, c2, c3⟩, fun U hU hW => ⟨rfl, hG.at hSz hU hW, hU⟩⟩ rfl rfl hsz rfl (by show 2 * 0 + _ ≤ 8; omega) hd ⟨by omega, by omega⟩
  refine va_calli hr hS (fun q _ h => h.elim) (fun q h => h.elim) (fun r u t H1 locs1 ht hvm hw hB hz1 hk1 hS1 => ?_)
  have hw : r = x := hw
  have hB : t.heap = H := hB
  subst hw
  rw [hB] at ht
  subst ht
  exact kk locs1 hS1
theorem zj_S (hFix : CallFix p m c cc nL s args zws own) (hM : zMok cm) (hG : zSg B sp s s.heap) (hA : ∀ q, A0 q → zAr B q) (hS : va_S A0 s.heap H locs)
    (hMet : Met l cm.2.2.2.2.1 (zwsM cm) (zrm0 fr) (zPs B sp H As) (zQs H x) 0 0 (fun _ => False))
    (w1 : (Cond.methodLink own k cm.2.2.2.2.1) ∈ zws) (w2 : Cond.static cm.2.2.2.2.1 ∈ zws) (w4 : Cond.initialized cm.2.2.2.2.1.cls ∈ zws) (w5 : (parseMethodDescriptor cm.2.2.2.2.1.desc).map (fun d => d.parameters.length) = some As.length)
    (hsz : lA.size = nL) (hw : (rest.map fun v => v.category).sum ≤ 8) (hfr : fr + 1 ≤ R.frames) (hlo : 60 * fr + 60 ≤ R.locals) (hc : cells ≤ R.cells ∧ slots ≤ R.slots) (hd : decode cc pc = .ok (.invokestatic k, 3))
    (kk : ∀ locs1, va_S A0 s.heap H locs1 → W p l e R s m args below meth c H locs1 cells slots Q (F0 m (pc + 3) lA (.int x :: rest))) :
    W p l e R s m args below meth c H locs cells slots Q (F0 m pc lA (As.reverse ++ rest)) := by
  have hSz := hS.wk hA
  have hr := va_runS (As := As) (rest := rest) (g := F0 m pc lA (As.reverse ++ rest)) (n := As.length) (H := H) (locs := locs) (cells := cells) (slots := slots) (e := e) (below := below) (meth := meth) hFix hMet ⟨zj_B hFix.2.2.2.2 hM hfr hlo w1 w4 w5, hFix.2.2.2.2 _ w2⟩
    ⟨zPs_blind, fun U hU hW => ⟨rfl, hG.at hSz hU hW, hU⟩⟩ rfl rfl hsz rfl (by show 2 * 0 + _ ≤ 8; omega) hd ⟨by omega, by omega⟩
  refine va_calli hr hS (fun q _ h => h.elim) (fun q h => h.elim) (fun r u t H1 locs1 ht hvm hw hB hz1 hk1 hS1 => ?_)
  have hw : r = x := hw
  have hB : t.heap = H := hB
  subst hw
  rw [hB] at ht
  subst ht
  exact kk locs1 hS1
theorem zj_N (hFix : CallFix p m c cc nL s args zws own) (hM : zMok cm) (hG : zSg B sp s s.heap) (hA : ∀ q, A0 q → zAr B q) (hS : va_S A0 s.heap H locs)
    (hMet : Met l cm.2.2.2.2.1 (zwsM cm) (zrm0 fr) (zPs B sp H As) (zQn H) 0 0 (fun _ => False))
    (w1 : (Cond.methodLink own k cm.2.2.2.2.1) ∈ zws) (w2 : Cond.static cm.2.2.2.2.1 ∈ zws) (w4 : Cond.initialized cm.2.2.2.2.1.cls ∈ zws) (w5 : (parseMethodDescriptor cm.2.2.2.2.1.desc).map (fun d => d.parameters.length) = some As.length)
    (hsz : lA.size = nL) (hw : (rest.map fun v => v.category).sum ≤ 8) (hfr : fr + 1 ≤ R.frames) (hlo : 60 * fr + 60 ≤ R.locals) (hc : cells ≤ R.cells ∧ slots ≤ R.slots) (hd : decode cc pc = .ok (.invokestatic k, 3))
    (kk : ∀ locs1, va_S A0 s.heap H locs1 → W p l e R s m args below meth c H locs1 cells slots Q (F0 m (pc + 3) lA rest)) :
    W p l e R s m args below meth c H locs cells slots Q (F0 m pc lA (As.reverse ++ rest)) := by
  have hSz := hS.wk hA
  have hr := va_runS (As := As) (rest := rest) (g := F0 m pc lA (As.reverse ++ rest)) (n := As.length) (H := H) (locs := locs) (cells := cells) (slots := slots) (e := e) (below := below) (meth := meth) hFix hMet ⟨zj_B hFix.2.2.2.2 hM hfr hlo w1 w4 w5, hFix.2.2.2.2 _ w2⟩
    ⟨zPs_blind, fun U hU hW => ⟨rfl, hG.at hSz hU hW, hU⟩⟩ rfl rfl hsz rfl (by show 2 * 0 + _ ≤ 8; omega) hd ⟨by omega, by omega⟩
  refine va_callv hr hS (fun q _ h => h.elim) (fun q h => h.elim) (fun u t H1 locs1 ht hvm hw hB hz1 hk1 hS1 => ?_)
  have hB : t.heap = H := hB
  rw [hB] at ht
  subst ht
  exact kk locs1 hS1
end ZSTR
end Pk3
section Pk4
theorem zmthV {o k na : Nat} {cm : zM} (hz : zmth o k = some (0, na, cm)) : Cond.methodLink (zRn o) k cm.2.2.2.2.1 ∈ zws ∧ Cond.instanceMethod cm.2.2.2.2.1 ∈ zws ∧ Cond.selects (zRn cm.2.1) cm.2.2.2.2.1 cm.2.2.2.2.1 ∈ zws ∧ Cond.initialized cm.2.2.2.2.1.cls ∈ zws ∧ (parseMethodDescriptor cm.2.2.2.2.1.desc).map (fun d => d.parameters.length + 1) = some na ∧ zMok cm := by
  obtain ⟨pl, pi, ps, pn, hcc, hM⟩ := zmth_get hz
  simp only [zmthC, Bool.and_eq_true, decide_eq_true_eq] at hcc
  obtain ⟨⟨⟨⟨⟨⟨⟨⟨w1, g1⟩, w2⟩, g2⟩, w3⟩, g3⟩, w4⟩, g4⟩, w5⟩ := hcc
  exact ⟨zws_in w1 g1, zws_in w2 g2, zws_in w3 g3, zws_in w4 g4, w5, hM (by decide)⟩
theorem zmthS {o k na : Nat} {cm : zM} (hz : zmth o k = some (1, na, cm)) : Cond.methodLink (zRn o) k cm.2.2.2.2.1 ∈ zws ∧ Cond.static cm.2.2.2.2.1 ∈ zws ∧ Cond.initialized cm.2.2.2.2.1.cls ∈ zws ∧ (parseMethodDescriptor cm.2.2.2.2.1.desc).map (fun d => d.parameters.length) = some na ∧ zMok cm := by
  obtain ⟨pl, pi, ps, pn, hcc, hM⟩ := zmth_get hz
  simp only [zmthC, Bool.and_eq_true, decide_eq_true_eq] at hcc
  obtain ⟨⟨⟨⟨⟨⟨w1, g1⟩, w2⟩, g2⟩, w4⟩, g4⟩, w5⟩ := hcc
  exact ⟨zws_in w1 g1, zws_in w2 g2, zws_in w4 g4, w5, hM (by decide)⟩
theorem zpar1 {o : Option MethodDescriptor} {n : Nat} (h : o.map (fun d => d.parameters.length + 1) = some (n + 1)) : o.map (fun d => d.parameters.length) = some n := by
  cases o with
  | none => cases h
  | some sig => simp only [Option.map_some, Option.some.injEq] at h ⊢; omega
set_option maxRecDepth 20000 in
theorem zjF38 : Cond.fieldLink "java/lang/String" 38 "java/lang/String" "COMPACT_STRINGS" "Z" ∈ zws := by decide +kernel
set_option maxRecDepth 20000 in
theorem zjF15 : Cond.fieldLink "java/lang/String" 15 "java/lang/String" "coder" "B" ∈ zws := by decide +kernel
set_option maxRecDepth 20000 in
theorem zjF9 : Cond.fieldLink "java/lang/String" 9 "java/lang/String" "value" "[B" ∈ zws := by decide +kernel
set_option maxRecDepth 20000 in
theorem zjF1053 : Cond.fieldLink "java/lang/String" 1053 "jdk/internal/util/Preconditions" "SIOOBE_FORMATTER" "Ljava/util/function/BiFunction;" ∈ zws := by decide +kernel
section ZSTR2
variable {l : Launch} {B : Nat} {sp : Nat → Nat} {a : Nat} {bs : List Int32}
theorem zj_coder (hz : zsc a = some bs) (H0 : Heap) : Met l yJ0_coder_7d493 (zwsM mJ0_coder_7d493) (zrm0 0) (zPs B sp H0 [.ref (sp a)]) (zQs H0 0) 0 0 (fun _ => False) := by
  refine Met.ofW (cc := cJ0_coder_7d493) (maxL := 1) (ret := some .byte) zoJ0_coder_7d493.2.2.1 rfl ?_
  intro p e s m args below meth c s₁ B' hml hv
  obtain ⟨rfl, hG, rfl⟩ := hv
  have hts : ∀ w ∈ zws, w.before _ s = true := fun w hw => atoms_spec (ws := zwsM mJ0_coder_7d493) B'.pre w (List.mem_cons_of_mem _ hw)
  have hown : s.vm.findClass "java/lang/String" = some m.cls := findClass_of_methodNamed B'.named
  have hlocks := B'.notSynchronized
  have hl := lv_entry ([.ref (sp a)] : List Value) (n := 1) (Nat.le_refl _)
  rw [lg_entry_eq]
  generalize (lg_sl [Value.ref (sp a)] ++ List.replicate (1 - (lg_sl [Value.ref (sp a)]).length) Slot.unset).toArray = lA at hl ⊢
  have h0 : lA[0]? = some (.val (.ref (sp a))) := lv_at hl 0 rfl
  have hSz : va_S (zAr B) s.heap s.heap [] := va_S.rf
  have hS0 : va_S (fun _ => False) s.heap s.heap [] := va_S.rf
  obtain ⟨t, q1, q2, q3, q4⟩ := hG.1 a bs hz
  refine va_gets B'.exec B'.bytes hG.2.1 hSz hown (hts _ zjF38) (fun _ h => h) dj_co0 ?_
  refine lv_if_eq B'.exec B'.bytes dj_co3 (tgt := 13) (by decide) (fun q => absurd q (by decide)) (fun _ => ?_)
  refine lv_aload_n B'.exec B'.bytes dj_co6 rfl h0 ?_
  refine vk_getf B'.exec B'.bytes q2 hSz hown (hts _ zjF15) (fun _ h => h) dj_co7 ?_
  refine lv_goto B'.exec B'.bytes dj_co10 (tgt := 14) (by decide) ?_
  exact W.zret (v := 0) (ty := .byte) B'.exec B'.bytes B'.returns (by decide) (fun t ht hW => ⟨⟨0, (), rfl, rfl, ht⟩, hS0.F ht⟩) hS0.2.2 dj_co14
theorem zj_latin (hz : zsc a = some bs) (H0 : Heap) : Met l yJ0_isLatin1_aae02 (zwsM mJ0_isLatin1_aae02) (zrm0 0) (zPs B sp H0 [.ref (sp a)]) (zQs H0 1) 0 0 (fun _ => False) := by
  refine Met.ofW (cc := cJ0_isLatin1_aae02) (maxL := 1) (ret := some .boolean) zoJ0_isLatin1_aae02.2.2.1 rfl ?_
  intro p e s m args below meth c s₁ B' hml hv
  obtain ⟨rfl, hG, rfl⟩ := hv
  have hts : ∀ w ∈ zws, w.before _ s = true := fun w hw => atoms_spec (ws := zwsM mJ0_isLatin1_aae02) B'.pre w (List.mem_cons_of_mem _ hw)
  have hown : s.vm.findClass "java/lang/String" = some m.cls := findClass_of_methodNamed B'.named
  have hlocks := B'.notSynchronized
  have hl := lv_entry ([.ref (sp a)] : List Value) (n := 1) (Nat.le_refl _)
  rw [lg_entry_eq]
  generalize (lg_sl [Value.ref (sp a)] ++ List.replicate (1 - (lg_sl [Value.ref (sp a)]).length) Slot.unset).toArray = lA at hl ⊢
  have h0 : lA[0]? = some (.val (.ref (sp a))) := lv_at hl 0 rfl
  have hSz : va_S (zAr B) s.heap s.heap [] := va_S.rf
  have hS0 : va_S (fun _ => False) s.heap s.heap [] := va_S.rf
  obtain ⟨t, q1, q2, q3, q4⟩ := hG.1 a bs hz
  refine va_gets B'.exec B'.bytes hG.2.1 hSz hown (hts _ zjF38) (fun _ h => h) dj_la0 ?_
  refine lv_if_eq B'.exec B'.bytes dj_la3 (tgt := 17) (by decide) (fun q => absurd q (by decide)) (fun _ => ?_)
  refine lv_aload_n B'.exec B'.bytes dj_la6 rfl h0 ?_
  refine vk_getf B'.exec B'.bytes q2 hSz hown (hts _ zjF15) (fun _ h => h) dj_la7 ?_
  refine lv_if_ne B'.exec B'.bytes dj_la10 (tgt := 17) (by decide) (fun q => absurd rfl q) (fun _ => ?_)
  refine lv_iconst B'.exec B'.bytes dj_la13 rfl ?_
  refine lv_goto B'.exec B'.bytes dj_la14 (tgt := 18) (by decide) ?_
  exact W.zret (v := 1) (ty := .boolean) B'.exec B'.bytes B'.returns (by decide) (fun t ht hW => ⟨⟨1, (), rfl, rfl, ht⟩, hS0.F ht⟩) hS0.2.2 dj_la18
theorem zj_length (hz : zsc a = some bs) (H0 : Heap) : Met l yJ0_length_8abf5 (zwsM mJ0_length_8abf5) (zrm0 1) (zPs B sp H0 [.ref (sp a)]) (zQs H0 (nI bs.length)) 0 0 (fun _ => False) := by
  refine Met.ofW (cc := cJ0_length_8abf5) (maxL := 1) (ret := some .int) zoJ0_length_8abf5.2.2.1 rfl ?_
  intro p e s m args below meth c s₁ B' hml hv
  obtain ⟨rfl, hG, rfl⟩ := hv
  have hts : ∀ w ∈ zws, w.before _ s = true := fun w hw => atoms_spec (ws := zwsM mJ0_length_8abf5) B'.pre w (List.mem_cons_of_mem _ hw)
  have hown : s.vm.findClass "java/lang/String" = some m.cls := findClass_of_methodNamed B'.named
  have hlocks := B'.notSynchronized
  have hl := lv_entry ([.ref (sp a)] : List Value) (n := 1) (Nat.le_refl _)
  rw [lg_entry_eq]
  generalize (lg_sl [Value.ref (sp a)] ++ List.replicate (1 - (lg_sl [Value.ref (sp a)]).length) Slot.unset).toArray = lA at hl ⊢
  have h0 : lA[0]? = some (.val (.ref (sp a))) := lv_at hl 0 rfl
  have hSz : va_S (zAr B) s.heap s.heap [] := va_S.rf
  have hS0 : va_S (fun _ => False) s.heap s.heap [] := va_S.rf
  obtain ⟨t, q1, q2, q3, q4⟩ := hG.1 a bs hz
  obtain ⟨v1, v2, v3, v4, v5, v6⟩ := zmthV (o := 14) (k := 335) (na := 1) (cm := mJ0_coder_7d493) rfl
  refine lv_aload_n B'.exec B'.bytes dj_len0 rfl h0 ?_
  refine vk_getf B'.exec B'.bytes q3 hSz hown (hts _ zjF9) (fun _ h => h) dj_len1 ?_
  refine va_tlen B'.exec B'.bytes q4 hSz (v := nI bs.length) rfl dj_len4 ?_
  refine lv_aload_n B'.exec B'.bytes dj_len5 rfl h0 ?_
  refine zj_V (nL := 1) (own := "java/lang/String") (As := []) (rest := [.int (nI bs.length)]) (fr := 0) ⟨B'.exec, B'.bytes, hml, hown, hts⟩ v6 hG (fun _ h => h.elim) hS0 hz (zj_coder hz _) v1 v2 v3 v4 (zpar1 v5) hl.1 (Nat.le_of_ble_eq_true rfl) (by decide) (by decide) ⟨Nat.zero_le _, Nat.zero_le _⟩ dj_len6 (fun locs1 hS1 => ?_)
  refine lv_ishr B'.exec B'.bytes dj_len9 ?_
  have e0 : nI bs.length >>> ((0 : Int32) &&& 31) = nI bs.length := by
    have : ((0 : Int32) &&& 31) = 0 := by decide
    rw [this, Int32.shiftRight_zero]
  rw [e0]
  exact W.zret (v := nI bs.length) (ty := .int) B'.exec B'.bytes B'.returns rfl (fun t ht hW => ⟨⟨nI bs.length, (), rfl, rfl, ht⟩, hS1.F ht⟩) hS1.2.2 dj_len10
theorem zj_ck3 {i n : Int32} {v : Value} (hv0 : v = .null ∨ ∃ t, v = .ref t) (hi : ¬ i < 0) (hn : i < n) (H0 : Heap) : Met l yJ3_checkIndex_8e157 (zwsM mJ3_checkIndex_8e157) (zrm0 0) (zPs B sp H0 [.int i, .int n, v]) (zQs H0 i) 0 0 (fun _ => False) := by
  refine Met.ofW (cc := cJ3_checkIndex_8e157) (maxL := 3) (ret := some .int) zoJ3_checkIndex_8e157.2.2.1 rfl ?_
  intro p e s m args below meth c s₁ B' hml hv
  obtain ⟨rfl, hG, rfl⟩ := hv
  have hlocks := B'.notSynchronized
  have hl := lv_entry ([.int i, .int n, v] : List Value) (n := 3) (by rcases hv0 with rfl | ⟨t, rfl⟩ <;> exact Nat.le_refl _)
  rw [lg_entry_eq]
  generalize (lg_sl [Value.int i, .int n, v] ++ List.replicate (3 - (lg_sl [Value.int i, .int n, v]).length) Slot.unset).toArray = lA at hl ⊢
  have h0 : lA[0]? = some (.val (.int i)) := lv_at hl 0 rfl
  have h1 : lA[1]? = some (.val (.int n)) := lv_at hl 1 rfl
  have hS0 : va_S (fun _ => False) s.heap s.heap [] := va_S.rf
  refine lv_iload_n B'.exec B'.bytes dj_c30 rfl h0 ?_
  refine lv_if_lt B'.exec B'.bytes dj_c31 (tgt := 9) (by decide) (fun q => absurd q hi) (fun _ => ?_)
  refine lv_iload_n B'.exec B'.bytes dj_c34 rfl h0 ?_
  refine lv_iload_n B'.exec B'.bytes dj_c35 rfl h1 ?_
  refine lv_icmp_lt B'.exec B'.bytes dj_c36 (tgt := 16) (by decide) (fun _ => ?_) (fun q => absurd hn q)
  refine lv_iload_n B'.exec B'.bytes dj_c3_16 rfl h0 ?_
  exact W.zret (v := i) (ty := .int) B'.exec B'.bytes B'.returns rfl (fun t ht hW => ⟨⟨i, (), rfl, rfl, ht⟩, hS0.F ht⟩) hS0.2.2 dj_c3_17
theorem zj_ck {i n : Int32} (hi : ¬ i < 0) (hn : i < n) (H0 : Heap) : Met l yJ0_checkIndex_df160 (zwsM mJ0_checkIndex_df160) (zrm0 1) (zPs B sp H0 [.int i, .int n]) (zQn H0) 0 0 (fun _ => False) := by
  refine Met.ofW (cc := cJ0_checkIndex_df160) (maxL := 2) (ret := none) zoJ0_checkIndex_df160.2.2.1 rfl ?_
  intro p e s m args below meth c s₁ B' hml hv
  obtain ⟨rfl, hG, rfl⟩ := hv
  have hts : ∀ w ∈ zws, w.before _ s = true := fun w hw => atoms_spec (ws := zwsM mJ0_checkIndex_df160) B'.pre w (List.mem_cons_of_mem _ hw)
  have hown : s.vm.findClass "java/lang/String" = some m.cls := findClass_of_methodNamed B'.named
  have hlocks := B'.notSynchronized
  have hl := lv_entry ([.int i, .int n] : List Value) (n := 2) (Nat.le_refl _)
  rw [lg_entry_eq]
  generalize (lg_sl [Value.int i, .int n] ++ List.replicate (2 - (lg_sl [Value.int i, .int n]).length) Slot.unset).toArray = lA at hl ⊢
  have h0 : lA[0]? = some (.val (.int i)) := lv_at hl 0 rfl
  have h1 : lA[1]? = some (.val (.int n)) := lv_at hl 1 rfl
  have hSz : va_S (zAr B) s.heap s.heap [] := va_S.rf
  have hS0 : va_S (fun _ => False) s.heap s.heap [] := va_S.rf
  obtain ⟨v1, v2, v4, v5, v6⟩ := zmthS (o := 14) (k := 1059) (na := 3) (cm := mJ3_checkIndex_8e157) rfl
  obtain ⟨v, hv0, hZ⟩ : ∃ v : Value, (v = .null ∨ ∃ t, v = .ref t) ∧ va_Z "jdk/internal/util/Preconditions" "SIOOBE_FORMATTER" "Ljava/util/function/BiFunction;" v (zAr B) s s.heap := by
    rcases hG.2.2.1 with h | ⟨t, h⟩
    · exact ⟨_, Or.inl rfl, h⟩
    · exact ⟨_, Or.inr ⟨t, rfl⟩, h⟩
  refine lv_iload_n B'.exec B'.bytes dj_ck0 rfl h0 ?_
  refine lv_iload_n B'.exec B'.bytes dj_ck1 rfl h1 ?_
  refine va_gets B'.exec B'.bytes hZ hSz hown (hts _ zjF1053) (fun _ h => h) dj_ck2 ?_
  refine zj_S (nL := 2) (own := "java/lang/String") (As := [.int i, .int n, v]) (rest := []) (fr := 0) ⟨B'.exec, B'.bytes, hml, hown, hts⟩ v6 hG (fun _ h => h.elim) hS0 (zj_ck3 hv0 hi hn _) v1 v2 v4 v5 hl.1 (Nat.le_of_ble_eq_true rfl) (by decide) (by decide) ⟨Nat.zero_le _, Nat.zero_le _⟩ dj_ck5 (fun locs1 hS1 => ?_)
  refine lv_pop B'.exec B'.bytes dj_ck8 rfl ?_
  exact W.vret B'.exec B'.bytes B'.returns (fun t ht hW => ⟨⟨(), rfl, trivial, ht⟩, hS1.F ht⟩) hS1.2.2 dj_ck9
theorem zj_ch1 {t : Nat} {i : Int32} (hin : zin i bs.length = true) (hz : zsc a = some bs) (H0 : Heap) : Met l yJ1_charAt_3b067 (zwsM mJ1_charAt_3b067) (zrm0 2) (va_Pc [.ref t, .int i] (fun U => (zSg B sp U U.heap ∧ va_T .byte t bs.length (fun j => .int (bs.getD j 0)) (zAr B) U U.heap) ∧ U.heap = H0)) (zQs H0 (bs.getD i.toNatClampNeg 0)) 0 0 (fun _ => False) := by
  refine Met.ofW (cc := cJ1_charAt_3b067) (maxL := 2) (ret := some .char) zoJ1_charAt_3b067.2.2.1 rfl ?_
  intro p e s m args below meth c s₁ B' hml hv
  obtain ⟨rfl, ⟨hG, hT⟩, rfl⟩ := hv
  have hts : ∀ w ∈ zws, w.before _ s = true := fun w hw => atoms_spec (ws := zwsM mJ1_charAt_3b067) B'.pre w (List.mem_cons_of_mem _ hw)
  have hown : s.vm.findClass RJ1 = some m.cls := findClass_of_methodNamed B'.named
  have hlocks := B'.notSynchronized
  have hl := lv_entry ([.ref t, .int i] : List Value) (n := 2) (Nat.le_refl _)
  rw [lg_entry_eq]
  generalize (lg_sl [Value.ref t, .int i] ++ List.replicate (2 - (lg_sl [Value.ref t, .int i]).length) Slot.unset).toArray = lA at hl ⊢
  have h0 : lA[0]? = some (.val (.ref t)) := lv_at hl 0 rfl
  have h1 : lA[1]? = some (.val (.int i)) := lv_at hl 1 rfl
  have hSz : va_S (zAr B) s.heap s.heap [] := va_S.rf
  have hS0 : va_S (fun _ => False) s.heap s.heap [] := va_S.rf
  obtain ⟨v1, v2, v4, v5, v6⟩ := zmthS (o := 15) (k := 9) (na := 2) (cm := mJ0_checkIndex_df160) rfl
  obtain ⟨-, hlen, hbs⟩ := zsc_get hz
  have hvp := vp_in_iff.mp (zin_in hin)
  have hi : ¬ i < 0 := fun q => by have := Int32.lt_iff_toInt_lt.mp q; have e0 : (0 : Int32).toInt = 0 := rfl; omega
  have hn : i < nI bs.length := Int32.lt_iff_toInt_lt.mpr (by rw [nI_toInt (by omega)]; exact hvp.2)
  have ek : (i.toNatClampNeg : Int) = i.toInt := by
    show ((i.toInt.toNat : Nat) : Int) = i.toInt
    omega
  have hmem : bs.getD i.toNatClampNeg 0 ∈ bs := by
    have hk : i.toNatClampNeg < bs.length := by omega
    rw [List.getD_eq_getElem?_getD, List.getElem?_eq_getElem hk]
    exact List.getElem_mem hk
  obtain ⟨c1, c2, c3⟩ := hbs _ hmem
  refine lv_iload_n B'.exec B'.bytes dj_c10 rfl h1 ?_
  refine lv_aload_n B'.exec B'.bytes dj_c11 rfl h0 ?_
  refine va_tlen B'.exec B'.bytes hT hSz (v := nI bs.length) rfl dj_c12 ?_
  refine zj_N (nL := 2) (own := RJ1) (As := [.int i, .int (nI bs.length)]) (rest := []) (fr := 1) ⟨B'.exec, B'.bytes, hml, hown, hts⟩ v6 hG (fun _ h => h.elim) hS0 (zj_ck hi hn _) v1 v2 v4 v5 hl.1 (Nat.le_of_ble_eq_true rfl) (by decide) (by decide) ⟨Nat.zero_le _, Nat.zero_le _⟩ dj_c13 (fun locs1 hS1 => ?_)
  refine lv_aload_n B'.exec B'.bytes dj_c16 rfl h0 ?_
  refine lv_iload_n B'.exec B'.bytes dj_c17 rfl h1 ?_
  refine va_tb B'.exec B'.bytes hT (hS1.wk (fun _ h => h.elim)) (zin_in hin) rfl dj_c18 ?_
  refine lv_sipush B'.exec B'.bytes dj_c19 (v := 255) (by decide) ?_
  refine lv_iand B'.exec B'.bytes dj_c1_12 ?_
  rw [c1]
  refine lv_i2c B'.exec B'.bytes dj_c1_13 c3 ?_
  exact W.zret (v := bs.getD i.toNatClampNeg 0) (ty := .char) B'.exec B'.bytes B'.returns c2 (fun t ht hW => ⟨⟨_, (), rfl, rfl, ht⟩, hS1.F ht⟩) hS1.2.2 dj_c1_14
theorem zj_charAt {i : Int32} (hin : zin i bs.length = true) (hz : zsc a = some bs) (H0 : Heap) : Met l yJ0_charAt_5068e (zwsM mJ0_charAt_5068e) (zrm0 3) (zPs B sp H0 [.ref (sp a), .int i]) (zQs H0 (bs.getD i.toNatClampNeg 0)) 0 0 (fun _ => False) := by
  refine Met.ofW (cc := cJ0_charAt_5068e) (maxL := 2) (ret := some .char) zoJ0_charAt_5068e.2.2.1 rfl ?_
  intro p e s m args below meth c s₁ B' hml hv
  obtain ⟨rfl, hG, rfl⟩ := hv
  have hts : ∀ w ∈ zws, w.before _ s = true := fun w hw => atoms_spec (ws := zwsM mJ0_charAt_5068e) B'.pre w (List.mem_cons_of_mem _ hw)
  have hown : s.vm.findClass "java/lang/String" = some m.cls := findClass_of_methodNamed B'.named
  have hlocks := B'.notSynchronized
  have hl := lv_entry ([.ref (sp a), .int i] : List Value) (n := 2) (Nat.le_refl _)
  rw [lg_entry_eq]
  generalize (lg_sl [Value.ref (sp a), .int i] ++ List.replicate (2 - (lg_sl [Value.ref (sp a), .int i]).length) Slot.unset).toArray = lA at hl ⊢
  have h0 : lA[0]? = some (.val (.ref (sp a))) := lv_at hl 0 rfl
  have h1 : lA[1]? = some (.val (.int i)) := lv_at hl 1 rfl
  have hS0 : va_S (fun _ => False) s.heap s.heap [] := va_S.rf
  obtain ⟨t, q1, q2, q3, q4⟩ := hG.1 a bs hz
  obtain ⟨v1, v2, v3, v4, v5, v6⟩ := zmthV (o := 14) (k := 492) (na := 1) (cm := mJ0_isLatin1_aae02) rfl
  obtain ⟨u1, u2, u4, u5, u6⟩ := zmthS (o := 14) (k := 495) (na := 2) (cm := mJ1_charAt_3b067) rfl
  obtain ⟨-, hlen, hbs⟩ := zsc_get hz
  have hvp := vp_in_iff.mp (zin_in hin)
  have ek : (i.toNatClampNeg : Int) = i.toInt := by
    show ((i.toInt.toNat : Nat) : Int) = i.toInt
    omega
  have hmem : bs.getD i.toNatClampNeg 0 ∈ bs := by
    have hk : i.toNatClampNeg < bs.length := by omega
    rw [List.getD_eq_getElem?_getD, List.getElem?_eq_getElem hk]
    exact List.getElem_mem hk
  obtain ⟨c1, c2, c3⟩ := hbs _ hmem
  refine lv_aload_n B'.exec B'.bytes dj_ch0 rfl h0 ?_
  refine zj_V (nL := 2) (own := "java/lang/String") (As := []) (rest := []) (fr := 0) ⟨B'.exec, B'.bytes, hml, hown, hts⟩ v6 hG (fun _ h => h.elim) hS0 hz (zj_latin hz _) v1 v2 v3 v4 (zpar1 v5) hl.1 (Nat.le_of_ble_eq_true rfl) (by decide) (by decide) ⟨Nat.zero_le _, Nat.zero_le _⟩ dj_ch1 (fun locs1 hS1 => ?_)
  refine lv_if_eq B'.exec B'.bytes dj_ch4 (tgt := 16) (by decide) (fun q => absurd q (by decide)) (fun _ => ?_)
  refine lv_aload_n B'.exec B'.bytes dj_ch7 rfl h0 ?_
  refine vk_getf B'.exec B'.bytes q3 (hS1.wk (fun _ h => h.elim)) hown (hts _ zjF9) (fun _ h => h) dj_ch8 ?_
  refine lv_iload_n B'.exec B'.bytes dj_ch11 rfl h1 ?_
  have hSz := hS1.wk (A' := zAr B) (fun _ h => h.elim)
  have hr := va_runS (As := [.ref t, .int i]) (rest := []) (g := F0 m 12 lA ([.ref t, .int i].reverse ++ [])) (n := 2) (H := s.heap) (locs := locs1) (cells := 0) (slots := 0) (e := e) (below := below) (meth := meth) (R := (headSpec (zwsM mJ0_charAt_5068e) (zrm0 3)).room) (cc := cJ0_charAt_5068e) (nL := 2) (Ts := zws) (own := "java/lang/String") ⟨B'.exec, B'.bytes, hml, hown, hts⟩ (zj_ch1 (l := l) (B := B) (sp := sp) (t := t) hin hz s.heap) ⟨zj_B hts u6 (by decide) (by decide) u1 u4 u5, hts _ u2⟩
    ⟨(by
      intro a U g mk q
      obtain ⟨q0, ⟨q1, q2⟩, q3⟩ := q
      exact ⟨q0, ⟨zSg.moved (u := U) (U := U.calling g mk a) (Vm.Alike.refl U.vm) q1, va_T.moved (u := U) (U := U.calling g mk a) (Vm.Alike.refl U.vm) q2⟩, q3⟩), fun U hU hW => ⟨rfl, ⟨hG.at hSz hU hW, va_T.moved hW.alike (by rw [hU]; exact q4)⟩, hU⟩⟩ rfl rfl hl.1 rfl (Nat.le_of_ble_eq_true rfl) dj_ch12 ⟨Nat.zero_le _, Nat.zero_le _⟩
  refine va_calli hr hS1 (fun q _ h => h.elim) (fun q h => h.elim) (fun r u t2 H1 locs2 ht hvm hw hB hz1 hk1 hS2 => ?_)
  have hw : r = bs.getD i.toNatClampNeg 0 := hw
  have hB : t2.heap = s.heap := hB
  subst hw
  rw [hB] at ht
  subst ht
  exact W.zret (v := bs.getD i.toNatClampNeg 0) (ty := .char) B'.exec B'.bytes B'.returns c2 (fun t ht hW => ⟨⟨_, (), rfl, rfl, ht⟩, hS2.F ht⟩) hS2.2.2 dj_ch15
end ZSTR2
section ZSTR3
variable {p : Program} {l : Launch} {e : Env} {R : Room} {s : State} {m : MethodId} {args : Array Value} {below : List Frame} {meth : Method} {c : Code} {Q : State → Prop} {B : Nat} {sp : Nat → Nat} {cA : Nat → ClassId} {D : va_G} {mi : zM} {c0 s0 : Nat}
variable {pc len : Nat} {ls : zL} {st : List zV} {h : zH}
theorem zs_str {k na : Nat} {cm : zM} {g : zC} (cx : zX p s m args meth c B sp cA D mi) (hd : decode mi.1 pc = .ok (.invokevirtual k, 3)) (hz : zmth mi.2.1 k = some (0, na, cm)) (hs : zstr cm pc ls st h = some (.inl g))
    (hf : 4 ≤ R.frames) (hlo : 240 ≤ R.locals) (hr1 : zc h ≤ c0 + R.cells) (hr2 : zt h ≤ s0 + R.slots)
    (kk : zK p l e R s m args below meth c Q B sp cA D mi c0 s0 g) : zK p l e R s m args below meth c Q B sp cA D mi c0 s0 (pc, ls, st, h) := by
  intro H locs lA cells slots hR hS hl h1 h2
  dsimp only at h1 h2 hl hR
  obtain ⟨hx, hb, hml, hown, hts, hin, hC⟩ := cx
  obtain ⟨v1, v2, v3, v4, v5, v6⟩ := zmthV hz
  have hFix : CallFix p m c mi.1 mi.2.2.1 s args zws (zRn mi.2.1) := ⟨hx, hb, hml, hown, hts⟩
  have e4 : ∀ a, 1000000 ≤ a → zcv B sp (.inr (.inr (some a))) = .ref (sp a) := by
    intro a ha
    show va_rf (some (zad B sp a)) = _
    rw [zad, if_neg (by omega)]
    rfl
  unfold zstr at hs
  split at hs
  · next a st' =>
    split at hs
    · next bs hbs =>
      split at hs
      · next hq =>
        obtain ⟨rfl, hw⟩ := hq
        cases hs
        show W p l e R s m args below meth c H locs cells slots Q (F0 m pc lA (zcv B sp (.inr (.inr (some a))) :: st'.map (zcv B sp)))
        rw [e4 a (zsc_get hbs).1]
        have hn : na = 1 := by
          have q : (parseMethodDescriptor yJ0_length_8abf5.desc).map (fun d => d.parameters.length + 1) = some 1 := by decide +kernel
          exact Option.some.inj (v5.symm.trans q)
        subst hn
        exact zj_V (As := []) (fr := 1) (A0 := zAr B) hFix v6 hC.2.2.2.2.2.1 (fun _ h => h) hS hbs (zj_length hbs _) v1 v2 v3 v4 (zpar1 v5) hl.1 (by rw [zwd_cv]; exact hw) (by omega) (by omega) ⟨by omega, by omega⟩ hd (fun locs1 hS1 => kk H locs1 lA cells slots hR hS1 hl h1 h2)
      · cases hs
    · cases hs
  · next i a st' =>
    split at hs
    · next bs hbs =>
      split at hs
      · next hq =>
        obtain ⟨rfl, hw, hi⟩ := hq
        cases hs
        show W p l e R s m args below meth c H locs cells slots Q (F0 m pc lA (.int i :: zcv B sp (.inr (.inr (some a))) :: st'.map (zcv B sp)))
        rw [e4 a (zsc_get hbs).1]
        have hn : na = 2 := by
          have q : (parseMethodDescriptor yJ0_charAt_5068e.desc).map (fun d => d.parameters.length + 1) = some 2 := by decide +kernel
          exact Option.some.inj (v5.symm.trans q)
        subst hn
        exact zj_V (As := [.int i]) (fr := 3) (A0 := zAr B) hFix v6 hC.2.2.2.2.2.1 (fun _ h => h) hS hbs (zj_charAt hi hbs _) v1 v2 v3 v4 (zpar1 v5) hl.1 (by rw [zwd_cv]; exact hw) (by omega) (by omega) ⟨by omega, by omega⟩ hd (fun locs1 hS1 => kk H locs1 lA cells slots hR hS1 hl h1 h2)
      · cases hs
    · cases hs
  · cases hs
end ZSTR3
end Pk4
