section Pk0
/-! fields and arrays of the small machine over the large one -/
theorem zft_get {ci f : Nat} (h1 : ci < 13) (h2 : f < (zft ci).length) : zftok ci f = true ∧ (zTT ci f).1 = zRn ci := by
  have a1 := List.all_eq_true.mp zft_ok ci (List.mem_range.mpr h1)
  have a2 := List.all_eq_true.mp a1 f (List.mem_range.mpr h2)
  simp only [Bool.and_eq_true, decide_eq_true_eq] at a2
  exact a2
theorem zget_own {α : Type} {l : List (List α)} {o : Nat} {x : α} (h : x ∈ l.getD o []) : o < l.length := by
  rcases Nat.lt_or_ge o l.length with q | q
  · exact q
  · have e : l.getD o [] = [] := by simp [List.getD, List.getElem?_eq_none q]
    rw [e] at h
    cases h
theorem zfld_get {o k ci f : Nat} (h : zfld o k = some (ci, f)) : ci < 13 ∧ f < (zft ci).length ∧ Cond.fieldLink (zRn o) k (zRn ci) (zTT ci f).2.1 (zTT ci f).2.2.1 ∈ zws := by
  unfold zfld at h
  obtain ⟨q, h1, h2⟩ := Option.map_eq_some_iff.mp h
  have hm := zlook_mem h1
  have ho : o < 19 := zget_own hm
  have hc := List.all_eq_true.mp (zfldK o ho) _ hm
  cases h2
  simp only [zfldC, Bool.and_eq_true, decide_eq_true_eq] at hc
  exact ⟨hc.1.1.1, hc.1.1.2, zws_in hc.1.2 hc.2⟩
def zfs (B : Nat) (sp : Nat → Nat) (h : zH) (a ci : Nat) : List Value := (List.range (zft ci).length).map (fun f => zcv B sp (zfv h ci a f))
theorem zfs_len {B : Nat} {sp : Nat → Nat} {h : zH} {a ci : Nat} : (zfs B sp h a ci).length = (zft ci).length := by simp [zfs]
theorem zfs_get {B : Nat} {sp : Nat → Nat} {h : zH} {a ci f : Nat} (hf : f < (zft ci).length) : (zfs B sp h a ci)[f]? = some (zcv B sp (zfv h ci a f)) := by
  simp [zfs, hf]
theorem zE_obj {B : Nat} {sp : Nat → Nat} {cA : Nat → ClassId} {h : zH} {a ci n : Nat} (hc : ci < 13) : zE B sp cA h a ci n = .inr (ci, zfs B sp h a ci) := by
  unfold zE
  rw [if_pos hc]
  rfl
theorem zE_B {B : Nat} {sp : Nat → Nat} {cA : Nat → ClassId} {h : zH} {a n : Nat} : zE B sp cA h a 13 n = .inl (cA 13, n, .inl (h.2.1 a)) := rfl
theorem zE_I {B : Nat} {sp : Nat → Nat} {cA : Nat → ClassId} {h : zH} {a n : Nat} : zE B sp cA h a 14 n = .inl (cA 14, n, .inl (h.2.1 a)) := rfl
theorem zE_J {B : Nat} {sp : Nat → Nat} {cA : Nat → ClassId} {h : zH} {a n : Nat} : zE B sp cA h a 15 n = .inl (cA 15, n, .inr (.inl (h.2.2.1 a))) := rfl
theorem zE_R {B : Nat} {sp : Nat → Nat} {cA : Nat → ClassId} {h : zH} {a k n : Nat} (hk : 16 ≤ k) : zE B sp cA h a k n = .inl (cA k, n, .inr (.inr (.inr (.inr (fun j => (h.2.2.2.1 a j).map (zad B sp)))))) := by
  unfold zE
  rw [if_neg (by omega), if_neg (by omega), if_neg (by omega)]
/-- a field's store, in the world -/
theorem zput_W {B : Nat} {sp : Nat → Nat} {cA : Nat → ClassId} {h h' : zH} {ci a f n : Nat} {v : zV} (hq : zsh h a = some (ci, n)) (hc : ci < 13) (hf : f < (zft ci).length) (hz : zput h ci a f v = some h') :
    h'.1 = h.1 ∧ h'.2.2.2.2 = h.2.2.2.2 ∧ zW B sp cA h' = (zW B sp cA h).set a (B + a, .inr (ci, (zfs B sp h a ci).set f (zcv B sp v))) ∧ narrow (zty ci f) (zcv B sp v) = zcv B sp v ∧ fits (zty ci f) (zcv B sp v) = true := by
  have hk := (zft_get hc hf).1
  unfold zput at hz
  split at hz
  · next x =>
    split at hz
    · next hcode =>
      cases hz
      have hne : (zft ci).getD f 0 ≠ 3 := by
        have e : (zft ci).getD f 0 = (zft ci).getD f 9 := by simp [List.getD, hf]
        rw [e]
        rcases hcode with q | ⟨q, -⟩ <;> rw [q] <;> decide
      refine ⟨rfl, rfl, ?_, ?_⟩
      · rw [zW_set (h' := zsI h a f x) hq rfl (fun b hb k n => zE_sI hb), zE_obj hc]
        congr 4
        refine List.ext_getElem? fun j => ?_
        by_cases hj : j < (zft ci).length
        · rw [zfs_get hj]
          by_cases hjf : j = f
          · subst hjf
            rw [List.getElem?_set_self (by rw [zfs_len]; exact hj)]
            unfold zfv
            rw [if_neg hne]
            simp [zsI, zup]
          · rw [List.getElem?_set_ne (Ne.symm hjf), zfs_get hj]
            unfold zfv
            simp [zsI, zup, hjf]
        · rw [List.getElem?_eq_none (by rw [zfs_len]; omega), List.getElem?_eq_none (by rw [List.length_set, zfs_len]; omega)]
      · rcases hcode with q | ⟨q, hx⟩
        · simp only [zftok, q, decide_eq_true_eq] at hk
          rw [hk]
          exact ⟨rfl, rfl⟩
        · simp only [zftok, q, decide_eq_true_eq] at hk
          rw [hk]
          rcases hx with rfl | rfl
          · exact ⟨(by decide : narrow FieldType.boolean (Value.int 0) = Value.int 0), (by decide : fits FieldType.boolean (Value.int 0) = true)⟩
          · exact ⟨(by decide : narrow FieldType.boolean (Value.int 1) = Value.int 1), (by decide : fits FieldType.boolean (Value.int 1) = true)⟩
    · cases hz
  · next r =>
    split at hz
    · next hcode =>
      cases hz
      have hne : (zft ci).getD f 0 = 3 := by
        have e : (zft ci).getD f 0 = (zft ci).getD f 9 := by simp [List.getD, hf]
        rw [e]; exact hcode
      refine ⟨rfl, rfl, ?_, ?_⟩
      · rw [zW_set (h' := zsR h a f r) hq rfl (fun b hb k n => zE_sR hb), zE_obj hc]
        congr 4
        refine List.ext_getElem? fun j => ?_
        by_cases hj : j < (zft ci).length
        · rw [zfs_get hj]
          by_cases hjf : j = f
          · subst hjf
            rw [List.getElem?_set_self (by rw [zfs_len]; exact hj)]
            unfold zfv
            rw [if_pos hne]
            simp [zsR, zup]
          · rw [List.getElem?_set_ne (Ne.symm hjf), zfs_get hj]
            unfold zfv
            simp [zsR, zup, hjf]
        · rw [List.getElem?_eq_none (by rw [zfs_len]; omega), List.getElem?_eq_none (by rw [List.length_set, zfs_len]; omega)]
      · simp only [zftok, hcode] at hk
        show narrow (zty ci f) (va_rf (r.map (zad B sp))) = va_rf (r.map (zad B sp)) ∧ fits (zty ci f) (va_rf (r.map (zad B sp))) = true
        generalize zty ci f = ty at hk
        cases ty <;> first | (cases hk; done) | (cases r <;> exact ⟨rfl, rfl⟩)
    · cases hz
  · cases hz
section ZP
variable {p : Program} {l : Launch} {e : Env} {R : Room} {s : State} {m : MethodId} {args : Array Value} {below : List Frame} {meth : Method} {c : Code} {H : Heap} {locs : List Loc} {cells slots : Nat} {Q : State → Prop}
variable {cc : ByteArray} {pc : Nat} {ls : Array Slot} {rest : List Value} {D : va_G} {cl : List vw_C} {A : Nat → Prop} {a : Nat} {tys : List (ClassId × FieldType)} {ws : va_W} {H0 : Heap}
/-- a field's store, which leaves the heap's size -/
theorem zp_put (hexec : p.tables.exec = Jvm.exec) (hb : c.code = cc) {own ref C : String} {T : u_T} {N ci index : Nat} {Ts : List Cond} (hts : ∀ w ∈ Ts, w.before args s = true) (hin : ∀ w ∈ u_ws C T N, w ∈ Ts) (ty0 : Nat → FieldType) (hty : ∀ k, k < N → parseFieldDescriptor (T k).2.2.1 = some (ty0 k)) (hnm : ∀ a, a < N → ∀ b, b < N → a ≠ b → (T a).2.1 ≠ (T b).2.1) (hown : s.vm.findClass own = some m.cls) (hK : va_K D cl tys s) (hP : va_P D cl ws H) (hD : va_D A ws) (hS0 : va_S A H0 H locs) (q0 : Nat) {fs : List Value} (he : ws[q0]? = some (a, .inr (ci, fs))) (hc : cl[ci]? = some (C, T, N)) (k : Nat) (hk : k < N) (hlink : (Cond.fieldLink own index ref (T k).2.1 (T k).2.2.1).before args s = true) (hsame : ∀ x, s.fieldFound? (T k).1 (T k).2.1 (T k).2.2.1 = some x → s.fieldFound? ref (T k).2.1 (T k).2.2.1 = some x) (hfin : (T k).2.2.2 = false ∨ (meth.name = "<init>" ∧ (T k).1 = own)) {v : Value} (hn : narrow (ty0 k) v = v) (hfit : fits (ty0 k) v = true) (hl : k < fs.length)
    (hdg : decode cc pc = .ok (.putfield index, 3)) (kk : ∀ (H1 : Heap) (locs1 : List Loc), H1.size = H.size → va_P D cl (ws.set q0 (a, .inr (ci, fs.set k v))) H1 → va_S A H0 H1 locs1 → W p l e R s m args below meth c H1 locs1 cells slots Q (F0 m (pc + 3) ls rest)) : W p l e R s m args below meth c H locs cells slots Q (F0 m pc ls (v :: .ref a :: rest)) := by
  have hap := va_apart (own := own) hts hin ty0 hty hnm hK hc
  obtain ⟨r, h1, cell, q1, q2, q3, q4⟩ := hP q0 _ he
  have hr : r = (C, T, N) := Option.some.inj (h1.symm.trans hc)
  subst hr
  obtain ⟨hS, hfc, kC, hkC, hkind⟩ := hK.1 ci _ hc
  obtain ⟨cf, kf, fi, f, hi, hsl⟩ := hS k hk
  have hlay := hts _ (hin _ (u_in_lay hk))
  have hst := (u_facts hfc hkC (u_lays hts hin hk) hi).1
  unfold u_lay at hlay
  by_cases hf : (T k).2.2.2 = true
  · obtain ⟨hin2, hdecl⟩ : meth.name = "<init>" ∧ (T k).1 = own := by
      rcases hfin with q | q
      · rw [q] at hf; cases hf
      · exact q
    rw [if_pos hf] at hlay
    have hcf : m.cls = cf := by
      obtain ⟨_, _, c', _, _, _, -, -, hf', -, -, -, hown2, -⟩ := Cond.laysFinal_spec hlay
      have e1 : c' = cf := by have := hi.symm.trans hf'; simp at this; exact this.1.symm
      rw [hdecl] at hown2
      rw [← e1]; exact Option.some.inj (hown.symm.trans hown2)
    have h6 := u_fits hfc hkC hkind (Or.inr hlay) hi (hty k hk) hn hfit
    refine W.putFinK hexec hb hown hlink (hsame _ hi) hst hcf hin2 (by rw [q2]; exact h6) q1 q3 (by rw [hsl]; exact k2_hasslot (q4 k hk)) rfl rfl hdg fun H' e1 e2 e3 => ?_
    rw [hsl] at e1 ⊢
    exact kk H' _ e2 (hP.set hD he ⟨_, hc, t_OB.to (V := updV (vp_V fs) k v) ⟨_, e1, q2, q3, t_set q4 hap hk v⟩ (fun j _ => vp_updV_set hl v j)⟩ e3) (hS0.put e2 e3 (hD.2 q0 _ he))
  · rw [if_neg hf] at hlay
    have h6 := u_store hfc hkC hkind hlay hi (hty k hk) hn hfit
    refine W.putK hexec hb (f := f) ⟨hown, hlink, ⟨_, _, _, hsame _ hi⟩, hst⟩ (by rw [q2]; exact h6) q1 q3 (by rw [hsl]; exact k2_hasslot (q4 k hk)) rfl rfl hdg fun H' e1 e2 e3 => ?_
    rw [hsl] at e1 ⊢
    exact kk H' _ e2 (hP.set hD he ⟨_, hc, t_OB.to (V := updV (vp_V fs) k v) ⟨_, e1, q2, q3, t_set q4 hap hk v⟩ (fun j _ => vp_updV_set hl v j)⟩ e3) (hS0.put e2 e3 (hD.2 q0 _ he))
/-- a text by a wide index -/
theorem zp_ldcwS (hexec : p.tables.exec = Jvm.exec) (hb : c.code = cc) {own tx : String} {index q : Nat} (hown : s.vm.findClass own = some m.cls) (hZ : vk_R own index tx q s) (hdg : decode cc pc = .ok (.ldc_w index, 3))
    (k : W p l e R s m args below meth c H locs cells slots Q (F0 m (pc + 3) ls (.ref q :: rest))) : W p l e R s m args below meth c H locs cells slots Q (F0 m pc ls rest) := by
  intro T hT X
  obtain ⟨t, a1, b1⟩ := k T hT X
  refine ⟨t, ?_, b1⟩
  obtain ⟨k, cf, i, a', hk, hcf, hcp, -, hr, hev'⟩ := Cond.stringRef_spec hown hZ.1
  cases hZ.2.symm.trans hev'
  obtain ⟨k', hk', he⟩ := X.warmed.alike.2.2 _ _ hk
  have hr' : k'.resolved[index]? = some (some (.string q)) := by
    rcases X.warmed.entry hk hk' index with h | ⟨h, -⟩
    · rw [h]; exact hr
    · rw [hr] at h; cases h
  have hdg' : decode c.code (F0 m pc ls rest).pc = .ok (.ldc_w index, 3) := by rw [hb]; exact hdg
  jvm_step X.here [hexec, hdg', ldc_w.wp_string (e := e) (s := T) (f := F0 m pc ls rest) X.here.top hk' (by rw [he]; exact hcf) hcp hr']
  exact a1
/-- stores into arrays, which leave the heap's size -/
theorem zp_iast (hexec : p.tables.exec = Jvm.exec) (hb : c.code = cc) (hK : va_K D cl tys s) (hP : va_P D cl ws H) (hD : va_D A ws) (hS : va_S A H0 H locs) (q0 t0 : Nat) {cA : ClassId} {n : Nat} {f : Nat → Int32} (ha : ws[q0]? = some (a, .inl (cA, n, .inl f))) (ht : tys[t0]? = some (cA, .int)) {i : Int32} {x : Int32} (hin : vp_in i n) (hdg : decode cc pc = .ok (.iastore, 1))
    (kk : ∀ (H1 : Heap) (locs1 : List Loc), H1.size = H.size → va_P D cl (ws.set q0 (a, .inl (cA, n, .inl (upd f i.toNatClampNeg x)))) H1 → va_S A H0 H1 locs1 → W p l e R s m args below meth c H1 locs1 cells slots Q (F0 m (pc + 1) ls rest)) : W p l e R s m args below meth c H locs cells slots Q (F0 m pc ls (.int x :: .int i :: .ref a :: rest)) := by
  refine W.iast hexec hb (hP q0 _ ha) ((hK.2 t0 _ ht).1 n (fun j => .int (f j))) (fun q => by cases q) (by show ¬ (i < 0 ∨ (arrV _ _ _).slots.size ≤ _); rw [arrV_size]; exact hin) rfl rfl hdg fun H1 e z oq => ?_
  refine kk H1 _ z (hP.set hD ha ?_ oq) (hS.put z oq (hD.2 q0 _ ha))
  show H1[a]? = some (vp_cell _ _)
  rw [e, vp_cell_i, vp_cell_i, arrV_store]
  congr 2
  funext q
  by_cases hq : q = i.toNatClampNeg
  · subst hq; simp [updV, upd]
  · simp [updV, upd, hq]
theorem zp_bast (hexec : p.tables.exec = Jvm.exec) (hb : c.code = cc) (hK : va_K D cl tys s) (hP : va_P D cl ws H) (hD : va_D A ws) (hS : va_S A H0 H locs) (q0 t0 : Nat) {cA : ClassId} {n : Nat} {f : Nat → Int32} (ha : ws[q0]? = some (a, .inl (cA, n, .inl f))) (ht : tys[t0]? = some (cA, .byte)) {i : Int32} {x : Int32} (hin : vp_in i n) (hdg : decode cc pc = .ok (.bastore, 1))
    (kk : ∀ (H1 : Heap) (locs1 : List Loc), H1.size = H.size → va_P D cl (ws.set q0 (a, .inl (cA, n, .inl (upd f i.toNatClampNeg (vp_nar .byte x))))) H1 → va_S A H0 H1 locs1 → W p l e R s m args below meth c H1 locs1 cells slots Q (F0 m (pc + 1) ls rest)) : W p l e R s m args below meth c H locs cells slots Q (F0 m pc ls (.int x :: .int i :: .ref a :: rest)) := by
  refine W.bast hexec hb (hP q0 _ ha) ((hK.2 t0 _ ht).1 n (fun j => .int (f j))) (fun q => by cases q) (by show ¬ (i < 0 ∨ (arrV _ _ _).slots.size ≤ _); rw [arrV_size]; exact hin) rfl rfl hdg fun H1 e z oq => ?_
  refine kk H1 _ z (hP.set hD ha ?_ oq) (hS.put z oq (hD.2 q0 _ ha))
  show H1[a]? = some (vp_cell _ _)
  rw [e, vp_cell_i, vp_cell_i, arrV_store]
  congr 2
  funext q
  by_cases hq : q = i.toNatClampNeg
  · subst hq; simp [updV, upd, vp_nar]; rfl
  · simp [updV, upd, hq]
theorem zp_last (hexec : p.tables.exec = Jvm.exec) (hb : c.code = cc) (hK : va_K D cl tys s) (hP : va_P D cl ws H) (hD : va_D A ws) (hS : va_S A H0 H locs) (q0 t0 : Nat) {cA : ClassId} {n : Nat} {f : Nat → Int64} (ha : ws[q0]? = some (a, .inl (cA, n, .inr (.inl f)))) (ht : tys[t0]? = some (cA, .long)) {i : Int32} {x : Int64} (hin : vp_in i n) (hdg : decode cc pc = .ok (.lastore, 1))
    (kk : ∀ (H1 : Heap) (locs1 : List Loc), H1.size = H.size → va_P D cl (ws.set q0 (a, .inl (cA, n, .inr (.inl (vp_updL f i.toNatClampNeg x))))) H1 → va_S A H0 H1 locs1 → W p l e R s m args below meth c H1 locs1 cells slots Q (F0 m (pc + 1) ls rest)) : W p l e R s m args below meth c H locs cells slots Q (F0 m pc ls (.long x :: .int i :: .ref a :: rest)) := by
  refine W.last hexec hb (hP q0 _ ha) ((hK.2 t0 _ ht).1 n (fun j => .long (f j))) (fun q => by cases q) (by show ¬ (i < 0 ∨ (arrV _ _ _).slots.size ≤ _); rw [arrV_size]; exact hin) rfl rfl hdg fun H1 e z oq => ?_
  refine kk H1 _ z (hP.set hD ha ?_ oq) (hS.put z oq (hD.2 q0 _ ha))
  show H1[a]? = some (vp_cell _ _)
  rw [e, vp_cell_l, vp_cell_l, arrV_store]
  congr 2
  funext q
  by_cases hq : q = i.toNatClampNeg
  · subst hq; simp [updV, vp_updL]
  · simp [updV, vp_updL, hq]
theorem zp_astq (hexec : p.tables.exec = Jvm.exec) (hb : c.code = cc) (hK : va_K D cl tys s) (hP : va_P D cl ws H) (hD : va_D A ws) (hS : va_S A H0 H locs) (q0 t0 qk ci : Nat) {cA : ClassId} {r : vw_C} {n v : Nat} {vs : List Value} {f : Nat → Option Nat} (ha : ws[q0]? = some (a, .inl (cA, n, .inr (.inr (.inr (.inr f)))))) (ht : tys[t0]? = some (cA, .object r.1)) (hv : ws[qk]? = some (v, .inr (ci, vs))) (hc : cl[ci]? = some r) {i : Int32} (hin : vp_in i n) (hdg : decode cc pc = .ok (.aastore, 1))
    (kk : ∀ (H1 : Heap) (locs1 : List Loc), H1.size = H.size → va_P D cl (ws.set q0 (a, .inl (cA, n, .inr (.inr (.inr (.inr (va_up f i.toNatClampNeg (some v)))))))) H1 → va_S A H0 H1 locs1 → W p l e R s m args below meth c H1 locs1 cells slots Q (F0 m (pc + 1) ls rest)) : W p l e R s m args below meth c H locs cells slots Q (F0 m pc ls (.ref v :: .int i :: .ref a :: rest)) := by
  have hlt : i.toNatClampNeg < n := Nat.not_le.mp fun q => hin (Or.inr q)
  have h0 : ¬ i < 0 := fun q => hin (Or.inl q)
  obtain ⟨r', hr', cellV, g1, g2, g3, -⟩ := hP qk _ hv
  have hcls := (hK.1 ci r hc).2
  obtain ⟨kA, comp, k1, k2, k3, -⟩ := (hK.2 t0 _ ht).2
  have hcomp : comp = D.1 ci := Option.some.inj (k3.symm.trans hcls.1)
  subst hcomp
  obtain ⟨kC, hkC, -⟩ := hcls.2
  refine W.aast hexec hb (hP q0 _ ha) (fun q h => by cases h) (fun h => by cases h) k1 k2 rfl hkC ⟨h0, by show _ < (arrV _ _ _).slots.size; rw [arrV_size]; exact hlt⟩ g1 (fun q h => by rw [g3] at h; cases h) (by rw [g2]; exact hkC) (by rw [g2]; exact va_assign hcls) rfl rfl hdg fun H1 e z oq => ?_
  refine kk H1 _ z (hP.set hD ha ?_ oq) (hS.put z oq (hD.2 q0 _ ha))
  show H1[a]? = some (vp_cell _ _)
  rw [e, vp_cell_q, vp_cell_q, arrV_store]
  congr 2
  funext q
  by_cases hq : q = i.toNatClampNeg
  · subst hq; simp [updV, va_up, va_rf]
  · simp [updV, va_up, hq]
/-- new cells, at the heap's end -/
theorem zp_new {c0 : Code} (hexec : p.tables.exec = Jvm.exec) (hb : c0.code = cc) {own C : String} {T : u_T} {N ci index : Nat} {Ts : List Cond} (hts : ∀ w ∈ Ts, w.before args s = true) (hin : ∀ w ∈ u_ws C T N, w ∈ Ts) (ty : Nat → FieldType) (hty : ∀ k, k < N → parseFieldDescriptor (T k).2.2.1 = some (ty k)) (hown : s.vm.findClass own = some m.cls) (hcl : (Cond.classLink own index C).before args s = true) (hinst : (Cond.instantiable C N).before args s = true) (hini : (Cond.initialized C).before args s = true)
    (hK : va_K D cl tys s) (hP : va_P D cl ws H) (hS : va_S A H0 H locs) (hc : cl[ci]? = some (C, T, N)) {fs : List Value} (hfs : ∀ j, j < N → defaultValue (ty j) = vp_V fs j) (hcells : cells + 1 ≤ R.cells) (hslots : slots + N ≤ R.slots) (hdg : decode cc pc = .ok (.new index, 3))
    (kk : ∀ (H1 : Heap), H1.size = H.size + 1 → va_P D cl (ws ++ [(H.size, .inr (ci, fs))]) H1 → va_S A H0 H1 locs →
      W p l e R s m args below meth c0 H1 locs (cells + 1) (slots + N) Q (F0 m (pc + 3) ls (.ref H.size :: rest))) : W p l e R s m args below meth c0 H locs cells slots Q (F0 m pc ls rest) := by
  have hKn := hK.1 ci _ hc
  refine W.newcK hexec hb hown hcl hinst hini rfl hdg hcells hslots hKn.2.1 rfl fun H1 kC hkC e1 z1 o1 => ?_
  have hk : ∀ (k : Nat) (x : Nat × va_E), ws[k]? = some x → H1[x.1]? = H[x.1]? := fun k x hx => o1 x.1 ((hP k x hx).lt)
  refine kk H1 z1 ((hP.kept hk).app (fun k x hx => ?_)) ⟨Nat.le_trans hS.1 (by omega), fun x h1 h2 => (o1 x (Nat.lt_of_lt_of_le h1 hS.1)).trans (hS.2.1 x h1 h2), hS.2.2⟩
  have hz : k < 1 := (List.getElem?_eq_some_iff.mp hx).1
  rw [show k = 0 by omega] at hx
  cases hx
  exact ⟨_, hc, (u_born ty hts hin hKn hkC e1 hty).to hfs⟩
theorem zp_newa (hexec : p.tables.exec = Jvm.exec) (hb : c.code = cc) {atype : ArrayType} (harr : (Cond.arrayClass (newarray.typeOf atype)).before args s = true) (hP : va_P D cl ws H) (hS : va_S A H0 H locs)
    {n : Int32} {N' : Nat} {a0 : vp_A} {cX : ClassId} (hX : s.vm.findClass ("[" ++ (newarray.typeOf atype).toString) = some cX) (ha : vp_cell cX a0 = arrV cX N' (fun _ => defaultValue (newarray.typeOf atype))) (hn : ¬ n < 0) (hN : n.toNatClampNeg = N') (hbytes : N' * componentBytes (newarray.typeOf atype) ≤ 536870912) (hcells : cells + 1 ≤ R.cells) (hslots : slots + N' ≤ R.slots) (hdg : decode cc pc = .ok (.newarray atype, 2))
    (kk : ∀ (H1 : Heap), H1.size = H.size + 1 → va_P D cl (ws ++ [(H.size, .inl (cX, a0))]) H1 → va_S A H0 H1 locs →
      W p l e R s m args below meth c H1 locs (cells + 1) (slots + N') Q (F0 m (pc + 2) ls (.ref H.size :: rest))) : W p l e R s m args below meth c H locs cells slots Q (F0 m pc ls (.int n :: rest)) := by
  refine va_newaK hexec hb harr rfl hdg rfl hn hN hbytes hcells hslots rfl fun H1 cA e1 z1 o1 hAr hNm => ?_
  have hcc : cA = cX := Option.some.inj (hNm.symm.trans hX)
  subst hcc
  have hk : ∀ (k : Nat) (x : Nat × va_E), ws[k]? = some x → H1[x.1]? = H[x.1]? := fun k x hx => o1 x.1 ((hP k x hx).lt)
  refine kk H1 z1 ((hP.kept hk).app (fun k x hx => ?_)) ⟨Nat.le_trans hS.1 (by omega), fun x h1 h2 => (o1 x (Nat.lt_of_lt_of_le h1 hS.1)).trans (hS.2.1 x h1 h2), hS.2.2⟩
  have hz : k < 1 := (List.getElem?_eq_some_iff.mp hx).1
  rw [show k = 0 by omega] at hx
  cases hx
  show H1[H.size]? = some (vp_cell _ _)
  rw [ha]
  exact e1
theorem zp_newq (hexec : p.tables.exec = Jvm.exec) (hb : c.code = cc) {own C : String} {index : Nat} (hown : s.vm.findClass own = some m.cls) (hclink : (Cond.classLink own index C).before args s = true) (hover : va_AO C s) (hP : va_P D cl ws H) (hS : va_S A H0 H locs)
    {n : Int32} {N' : Nat} {cX : ClassId} (hX : s.vm.findClass ("[" ++ (FieldType.object C).toString) = some cX) (hn : ¬ n < 0) (hN : n.toNatClampNeg = N') (hbytes : N' * 4 ≤ 536870912) (hcells : cells + 1 ≤ R.cells) (hslots : slots + N' ≤ R.slots) (hdg : decode cc pc = .ok (.anewarray index, 3))
    (kk : ∀ (H1 : Heap), H1.size = H.size + 1 → va_P D cl (ws ++ [(H.size, .inl (cX, N', .inr (.inr (.inr (.inr (fun _ => none))))))]) H1 → va_S A H0 H1 locs →
      W p l e R s m args below meth c H1 locs (cells + 1) (slots + N') Q (F0 m (pc + 3) ls (.ref H.size :: rest))) : W p l e R s m args below meth c H locs cells slots Q (F0 m pc ls (.int n :: rest)) := by
  subst hN
  refine W.anew hexec hb hown hclink (va_AO.use hover) rfl hdg rfl hn hbytes hcells hslots fun cA kA comp f1 f2 f3 f4 => ?_
  have hcc : cA = cX := Option.some.inj (f1.symm.trans hX)
  subst hcc
  generalize hH1 : H.push ({ cls := cA, slots := Array.replicate n.toNatClampNeg .null, vm := .none } : Cell) = H1
  have z1 : H1.size = H.size + 1 := by rw [← hH1, Array.size_push]
  have e1 : H1[H.size]? = some (arrV cA n.toNatClampNeg (fun _ => .null)) := by rw [← hH1, Array.getElem?_push_size, ← arrV_new]
  have o1 : ∀ q : Nat, q < H.size → H1[q]? = H[q]? := fun q hq => by rw [← hH1, Array.getElem?_push, if_neg (Nat.ne_of_lt hq)]
  have hk : ∀ (k : Nat) (x : Nat × va_E), ws[k]? = some x → H1[x.1]? = H[x.1]? := fun k x hx => o1 x.1 ((hP k x hx).lt)
  refine kk H1 z1 ((hP.kept hk).app (fun k x hx => ?_)) ⟨Nat.le_trans hS.1 (by omega), fun x h1 h2 => (o1 x (Nat.lt_of_lt_of_le h1 hS.1)).trans (hS.2.1 x h1 h2), hS.2.2⟩
  have hz : k < 1 := (List.getElem?_eq_some_iff.mp hx).1
  rw [show k = 0 by omega] at hx
  cases hx
  show H1[H.size]? = some (vp_cell _ _)
  rw [vp_cell_q]
  exact e1
end ZP
section ZS3
variable {p : Program} {l : Launch} {e : Env} {R : Room} {s : State} {m : MethodId} {args : Array Value} {below : List Frame} {meth : Method} {c : Code} {Q : State → Prop} {B : Nat} {sp : Nat → Nat} {cA : Nat → ClassId} {D : va_G} {mi : zM} {c0 s0 : Nat}
variable {pc len : Nat} {ls : zL} {st : List zV} {h : zH}
theorem zok_lt {a : Nat} {q : Nat × Nat} (hk : zok h) (hq : zsh h a = some q) : a < 1000000 := by
  have := zsh_lt hq
  have := hk.1
  omega
theorem zs_get {k a ci f n : Nat} (cx : zX p s m args meth c B sp cA D mi) (hd : decode mi.1 pc = .ok (.getfield k, 3)) (hz : zfld mi.2.1 k = some (ci, f)) (hq : zsh h a = some (ci, n)) (kk : zK p l e R s m args below meth c Q B sp cA D mi c0 s0 (pc + 3, ls, zfv h ci a f :: st, h)) : zK p l e R s m args below meth c Q B sp cA D mi c0 s0 (pc, ls, .inr (.inr (some a)) :: st, h) := by
  intro H locs lA cells slots hR hS hl h1 h2
  obtain ⟨hx, hb, hml, hown, hts, hin, hK, -⟩ := cx
  obtain ⟨hc, hf, hw⟩ := zfld_get hz
  have hW := zW_get (B := B) (sp := sp) (cA := cA) hq
  rw [zE_obj hc] at hW
  show W p l e R s m args below meth c H locs cells slots Q (F0 m pc lA (zcv B sp (.inr (.inr (some a))) :: st.map (zcv B sp)))
  rw [zcv_ref (zok_lt hR.2.1 hq)]
  exact va_get hx hb hts (zcl_ws hc) hown hK hR.1 a hW (zcl_cl hc) f hf (hts _ hw) (by rw [(zft_get hc hf).2]; exact fun _ q => q) (zfs_get hf) hd (kk H locs lA cells slots hR hS hl h1 h2)
theorem zs_put {k a ci f n : Nat} {v : zV} {h' : zH} (cx : zX p s m args meth c B sp cA D mi) (hd : decode mi.1 pc = .ok (.putfield k, 3)) (hz : zfld mi.2.1 k = some (ci, f)) (hq : zsh h a = some (ci, n)) (hfi : zfin ci f = false ∨ (mi.2.2.2.2.2 = true ∧ mi.2.1 = ci)) (hp : zput h ci a f v = some h')
    (kk : zK p l e R s m args below meth c Q B sp cA D mi c0 s0 (pc + 3, ls, st, h')) : zK p l e R s m args below meth c Q B sp cA D mi c0 s0 (pc, ls, v :: .inr (.inr (some a)) :: st, h) := by
  intro H locs lA cells slots hR hS hl h1 h2
  obtain ⟨hx, hb, hml, hown, hts, hin, hK, -⟩ := cx
  obtain ⟨hc, hf, hw⟩ := zfld_get hz
  have hW := zW_get (B := B) (sp := sp) (cA := cA) hq
  rw [zE_obj hc] at hW
  obtain ⟨e1, e2, e3, e4, e5⟩ := zput_W (B := B) (sp := sp) (cA := cA) hq hc hf hp
  show W p l e R s m args below meth c H locs cells slots Q (F0 m pc lA (zcv B sp v :: zcv B sp (.inr (.inr (some a))) :: st.map (zcv B sp)))
  rw [zcv_ref (zok_lt hR.2.1 hq)]
  have hzc : zc h' = zc h := by unfold zc; rw [e1, e2]
  have hzt : zt h' = zt h := by unfold zt; rw [e1, e2]
  have hok : zok h' := by unfold zok zsh; rw [e1]; exact hR.2.1
  refine zp_put hx hb hts (zcl_ws hc) (zty ci) (zcl_ty hc) (zcl_nm hc) hown hK hR.1 zW_D hS a hW (zcl_cl hc) f hf (hts _ hw) (by rw [(zft_get hc hf).2]; exact fun _ q => q) ?_ e4 e5 (by rw [zfs_len]; exact hf) hd (fun H1 locs1 hz1 hP1 hS1 => ?_)
  · rcases hfi with q | ⟨q1, q2⟩
    · exact Or.inl q
    · exact Or.inr ⟨hin q1, by rw [(zft_get hc hf).2, q2]⟩
  · exact kk H1 locs1 lA cells slots ⟨by rw [e3]; exact hP1, hok, fun q => by rw [hz1, e1]; exact hR.2.2 (by rw [← e2]; exact q)⟩ hS1 hl (by rw [hzc]; exact h1) (by rw [hzt]; exact h2)
/-- constants of the pool -/
theorem zcst_get {o k : Nat} {v : zV} (hz : zcst o k = some v) : (∃ x, v = .inl x ∧ Cond.constant (zRn o) k x ∈ zws) ∨ (∃ x, v = .inr (.inl x) ∧ Cond.constantLong (zRn o) k x ∈ zws) ∨ (∃ a q, v = .inr (.inr (some a)) ∧ 1000000 ≤ a ∧ q ∈ zsr ∧ q.1 = o ∧ q.2.1 = k ∧ q.2.2.2.1 = a) := by
  unfold zcst at hz
  obtain ⟨q, h1, h2⟩ := Option.map_eq_some_iff.mp hz
  have hm := zlook_mem h1
  have ho : o < 19 := zget_own hm
  have hc := List.all_eq_true.mp (List.all_eq_true.mp zcstK o (List.mem_range.mpr ho)) _ hm
  cases h2
  unfold zcstC at hc
  dsimp only at hc
  split at hc
  · next x hx =>
    simp only [Bool.and_eq_true, decide_eq_true_eq] at hc
    exact Or.inl ⟨x, hx, zws_in hc.1 hc.2⟩
  · next x hx =>
    simp only [Bool.and_eq_true, decide_eq_true_eq] at hc
    exact Or.inr (Or.inl ⟨x, hx, zws_in hc.1 hc.2⟩)
  · next a hx =>
    simp only [Bool.and_eq_true, decide_eq_true_eq, List.any_eq_true] at hc
    obtain ⟨⟨q', h3, ⟨h4, h5⟩, h6⟩, h7⟩ := hc
    exact Or.inr (Or.inr ⟨a, q', hx, h7, h3, h4, h5, h6⟩)
  · cases hc
theorem zs_ldv {k : Nat} {i : Instr} {v : zV} (cx : zX p s m args meth c B sp cA D mi) (hi : (i = .ldc k ∧ len = 2) ∨ (i = .ldc_w k ∧ len = 3) ∨ (i = .ldc2_w k ∧ len = 3)) (hd : decode mi.1 pc = .ok (i, len)) (hz : zcst mi.2.1 k = some v) (hn : i = .ldc2_w k ↔ zcat v = 2)
    (kk : zK p l e R s m args below meth c Q B sp cA D mi c0 s0 (pc + len, ls, v :: st, h)) : zK p l e R s m args below meth c Q B sp cA D mi c0 s0 (pc, ls, st, h) := by
  intro H locs lA cells slots hR hS hl h1 h2
  have k' := kk H locs lA cells slots hR hS hl h1 h2
  obtain ⟨hx, hb, hml, hown, hts, hin, hC⟩ := cx
  rcases zcst_get hz with ⟨x, rfl, hw⟩ | ⟨x, rfl, hw⟩ | ⟨a, q, rfl, ha, hq, e1, e2, e3⟩
  · rcases hi with ⟨rfl, rfl⟩ | ⟨rfl, rfl⟩ | ⟨rfl, rfl⟩
    · exact lv_ldc hx hb hown (hts _ hw) hd k'
    · exact lv_ldcw hx hb hown (hts _ hw) hd k'
    · exact absurd (hn.mp rfl) (by simp [zcat])
  · rcases hi with ⟨rfl, rfl⟩ | ⟨rfl, rfl⟩ | ⟨rfl, rfl⟩
    · exact absurd (hn.mpr rfl) (by simp)
    · exact absurd (hn.mpr rfl) (by simp)
    · exact lv_ldc2 hx hb hown (hts _ hw) hd k'
  · rcases hi with ⟨rfl, rfl⟩ | ⟨rfl, rfl⟩ | ⟨rfl, rfl⟩
    · have hZ := hC.2.2.1 q hq
      rw [e1, e2, e3] at hZ
      refine va_ldcS hx hb hown hZ hd ?_
      have e4 : zcv B sp (.inr (.inr (some a))) = .ref (sp a) := by
        show va_rf (some (zad B sp a)) = _
        rw [zad, if_neg (by omega)]
        rfl
      have k2 : W p l e R s m args below meth c H locs cells slots Q (F0 m (pc + 2) lA (zcv B sp (.inr (.inr (some a))) :: st.map (zcv B sp))) := k'
      rw [e4] at k2
      exact k2
    · have hZ := hC.2.2.1 q hq
      rw [e1, e2, e3] at hZ
      refine zp_ldcwS hx hb hown hZ hd ?_
      have e4 : zcv B sp (.inr (.inr (some a))) = .ref (sp a) := by
        show va_rf (some (zad B sp a)) = _
        rw [zad, if_neg (by omega)]
        rfl
      have k2 : W p l e R s m args below meth c H locs cells slots Q (F0 m (pc + 3) lA (zcv B sp (.inr (.inr (some a))) :: st.map (zcv B sp))) := k'
      rw [e4] at k2
      exact k2
    · exact absurd (hn.mp rfl) (by simp [zcat])
theorem zin_in {i : Int32} {n : Nat} (hz : zin i n = true) : vp_in i n := by
  unfold zin at hz
  exact fun hq => (of_decide_eq_true hz : ¬ (i < 0 ∨ n ≤ i.toNatClampNeg)) hq
/-- an int array's place is read, or the script's -/
theorem zs_iald {a : Nat} {i v : Int32} {scr : Option (Nat × (Nat → Int32))} (cx : zX p s m args meth c B sp cA D mi) (hd : decode mi.1 pc = .ok (.iaload, 1)) (hz : zld scr h 14 a i = some v) (hscr : ∀ L xs, scr = some (L, xs) → va_X (sp 1000000) L xs s s.heap ∧ sp 1000000 < s.heap.size ∧ sp 1000000 < B)
    (kk : zK p l e R s m args below meth c Q B sp cA D mi c0 s0 (pc + 1, ls, .inl v :: st, h)) : zK p l e R s m args below meth c Q B sp cA D mi c0 s0 (pc, ls, .inl i :: .inr (.inr (some a)) :: st, h) := by
  intro H locs lA cells slots hR hS hl h1 h2
  have k' := kk H locs lA cells slots hR hS hl h1 h2
  obtain ⟨hx, hb, hml, hown, hts, hin, hC⟩ := cx
  show W p l e R s m args below meth c H locs cells slots Q (F0 m pc lA (.int i :: zcv B sp (.inr (.inr (some a))) :: st.map (zcv B sp)))
  unfold zld at hz
  split at hz
  · next k n hq =>
    split at hz
    · next hk =>
      subst hk
      split at hz
      · next hi =>
        cases hz
        rw [zcv_ref (zok_lt hR.2.1 hq)]
        exact va_iald hx hb hC.1 hR.1 a 1 (zW_get hq) rfl (zin_in hi) hd k'
      · cases hz
    · cases hz
  · split at hz
    · next hq =>
      obtain ⟨-, rfl⟩ := hq
      split at hz
      · next L xs =>
        split at hz
        · next hi =>
          cases hz
          obtain ⟨hX, hbl, hbB⟩ := hscr L xs rfl
          have e4 : zcv B sp (.inr (.inr (some 1000000))) = .ref (sp 1000000) := rfl
          rw [e4]
          exact va_sld hx hb hX hbl (Nat.not_le.mpr hbB) hS (zin_in hi) hd k'
        · cases hz
      · cases hz
    · split at hz
      · next hq =>
        obtain ⟨-, rfl⟩ := hq
        split at hz
        · next hi =>
          cases hz
          have e4 : zcv B sp (.inr (.inr (some 1000001))) = .ref (sp 1000001) := rfl
          rw [e4]
          exact va_ti hx hb hC.2.2.2.2.2.1.2.2.2.2 hS (zin_in hi) rfl hd k'
        · cases hz
      · cases hz
theorem zs_getst (cx : zX p s m args meth c B sp cA D mi) (hd : decode mi.1 pc = .ok (.getstatic zgsk, 3)) (ho : mi.2.1 = 6)
    (kk : zK p l e R s m args below meth c Q B sp cA D mi c0 s0 (pc + 3, ls, .inr (.inr (some 1000001)) :: st, h)) : zK p l e R s m args below meth c Q B sp cA D mi c0 s0 (pc, ls, st, h) := by
  intro H locs lA cells slots hR hS hl h1 h2
  have k' := kk H locs lA cells slots hR hS hl h1 h2
  obtain ⟨hx, hb, hml, hown, hts, hin, hC⟩ := cx
  rw [ho] at hown
  refine va_getsN hx hb hC.2.2.2.2.2.1.2.2.2.1 hS hown (va_Nw.use rfl hC.2.2.2.2.2.2) (fun _ h => h) hd ?_
  exact k'
theorem zs_bald {a : Nat} {i v : Int32} {scr : Option (Nat × (Nat → Int32))} (cx : zX p s m args meth c B sp cA D mi) (hd : decode mi.1 pc = .ok (.baload, 1)) (hz : zld scr h 13 a i = some v)
    (kk : zK p l e R s m args below meth c Q B sp cA D mi c0 s0 (pc + 1, ls, .inl v :: st, h)) : zK p l e R s m args below meth c Q B sp cA D mi c0 s0 (pc, ls, .inl i :: .inr (.inr (some a)) :: st, h) := by
  intro H locs lA cells slots hR hS hl h1 h2
  have k' := kk H locs lA cells slots hR hS hl h1 h2
  obtain ⟨hx, hb, hml, hown, hts, hin, hC⟩ := cx
  show W p l e R s m args below meth c H locs cells slots Q (F0 m pc lA (.int i :: zcv B sp (.inr (.inr (some a))) :: st.map (zcv B sp)))
  unfold zld at hz
  split at hz
  · next k n hq =>
    split at hz
    · next hk =>
      subst hk
      split at hz
      · next hi =>
        cases hz
        rw [zcv_ref (zok_lt hR.2.1 hq)]
        exact va_bald hx hb hC.1 hR.1 a 0 (zW_get hq) rfl (zin_in hi) hd k'
      · cases hz
    · cases hz
  · split at hz
    · next hq => exact absurd hq.1 (by decide)
    · split at hz
      · next hq => exact absurd hq.1 (by decide)
      · cases hz
theorem zs_lald {a n : Nat} {i : Int32} (cx : zX p s m args meth c B sp cA D mi) (hd : decode mi.1 pc = .ok (.laload, 1)) (hq : zsh h a = some (15, n)) (hi : zin i n = true)
    (kk : zK p l e R s m args below meth c Q B sp cA D mi c0 s0 (pc + 1, ls, .inr (.inl (h.2.2.1 a i.toNatClampNeg)) :: st, h)) : zK p l e R s m args below meth c Q B sp cA D mi c0 s0 (pc, ls, .inl i :: .inr (.inr (some a)) :: st, h) := by
  intro H locs lA cells slots hR hS hl h1 h2
  have k' := kk H locs lA cells slots hR hS hl h1 h2
  obtain ⟨hx, hb, hml, hown, hts, hin, hC⟩ := cx
  show W p l e R s m args below meth c H locs cells slots Q (F0 m pc lA (.int i :: zcv B sp (.inr (.inr (some a))) :: st.map (zcv B sp)))
  rw [zcv_ref (zok_lt hR.2.1 hq)]
  exact va_lald hx hb hC.1 hR.1 a 2 (zW_get hq) rfl (zin_in hi) hd k'
theorem ztys_R {k : Nat} (h1 : 16 ≤ k) (h2 : k ≤ 20) : (ztys cA)[k - 13]? = some (cA k, .object (zRn (zrc k))) := by
  have : k = 16 ∨ k = 17 ∨ k = 18 ∨ k = 19 ∨ k = 20 := by omega
  rcases this with rfl | rfl | rfl | rfl | rfl <;> rfl
theorem zs_aald {a k n : Nat} {i : Int32} (cx : zX p s m args meth c B sp cA D mi) (hd : decode mi.1 pc = .ok (.aaload, 1)) (hq : zsh h a = some (k, n)) (hk : 16 ≤ k) (hk2 : k ≤ 20) (hi : zin i n = true)
    (kk : zK p l e R s m args below meth c Q B sp cA D mi c0 s0 (pc + 1, ls, .inr (.inr (h.2.2.2.1 a i.toNatClampNeg)) :: st, h)) : zK p l e R s m args below meth c Q B sp cA D mi c0 s0 (pc, ls, .inl i :: .inr (.inr (some a)) :: st, h) := by
  intro H locs lA cells slots hR hS hl h1 h2
  have k' := kk H locs lA cells slots hR hS hl h1 h2
  obtain ⟨hx, hb, hml, hown, hts, hin, hC⟩ := cx
  show W p l e R s m args below meth c H locs cells slots Q (F0 m pc lA (.int i :: zcv B sp (.inr (.inr (some a))) :: st.map (zcv B sp)))
  rw [zcv_ref (zok_lt hR.2.1 hq)]
  have hW := zW_get (B := B) (sp := sp) (cA := cA) hq
  rw [zE_R hk] at hW
  exact va_aldq hx hb hC.1 hR.1 a (k - 13) hW (ztys_R hk hk2) (zin_in hi) hd k'
theorem zs_iast {a : Nat} {i v : Int32} {h' : zH} (cx : zX p s m args meth c B sp cA D mi) (hd : decode mi.1 pc = .ok (.iastore, 1)) (hz : zst h 14 a i v = some h')
    (kk : zK p l e R s m args below meth c Q B sp cA D mi c0 s0 (pc + 1, ls, st, h')) : zK p l e R s m args below meth c Q B sp cA D mi c0 s0 (pc, ls, .inl v :: .inl i :: .inr (.inr (some a)) :: st, h) := by
  intro H locs lA cells slots hR hS hl h1 h2
  obtain ⟨hx, hb, hml, hown, hts, hin, hC⟩ := cx
  show W p l e R s m args below meth c H locs cells slots Q (F0 m pc lA (.int v :: .int i :: zcv B sp (.inr (.inr (some a))) :: st.map (zcv B sp)))
  unfold zst at hz
  split at hz
  · next k n hq =>
    split at hz
    · next hk =>
      subst hk
      split at hz
      · next hi =>
        cases hz
        rw [zcv_ref (zok_lt hR.2.1 hq)]
        refine zp_iast hx hb hC.1 hR.1 zW_D hS a 1 (zW_get hq) rfl (zin_in hi) hd (fun H1 locs1 hz1 hP1 hS1 => ?_)
        refine kk H1 locs1 lA cells slots ⟨?_, hR.2.1, fun q => by rw [hz1]; exact hR.2.2 q⟩ hS1 hl h1 h2
        rw [zW_set (h' := zsI h a i.toNatClampNeg v) hq rfl (fun b hb k n => zE_sI hb), zE_I]
        have e : (zsI h a i.toNatClampNeg v).2.1 a = upd (h.2.1 a) i.toNatClampNeg v := by
          funext j
          simp [zsI, zup, upd]
        rw [e]
        exact hP1
      · cases hz
    · cases hz
  · cases hz
theorem zs_bast {a : Nat} {i v : Int32} {h' : zH} (cx : zX p s m args meth c B sp cA D mi) (hd : decode mi.1 pc = .ok (.bastore, 1)) (hz : zst h 13 a i (vp_nar .byte v) = some h')
    (kk : zK p l e R s m args below meth c Q B sp cA D mi c0 s0 (pc + 1, ls, st, h')) : zK p l e R s m args below meth c Q B sp cA D mi c0 s0 (pc, ls, .inl v :: .inl i :: .inr (.inr (some a)) :: st, h) := by
  intro H locs lA cells slots hR hS hl h1 h2
  obtain ⟨hx, hb, hml, hown, hts, hin, hC⟩ := cx
  show W p l e R s m args below meth c H locs cells slots Q (F0 m pc lA (.int v :: .int i :: zcv B sp (.inr (.inr (some a))) :: st.map (zcv B sp)))
  unfold zst at hz
  split at hz
  · next k n hq =>
    split at hz
    · next hk =>
      subst hk
      split at hz
      · next hi =>
        cases hz
        rw [zcv_ref (zok_lt hR.2.1 hq)]
        refine zp_bast hx hb hC.1 hR.1 zW_D hS a 0 (zW_get hq) rfl (zin_in hi) hd (fun H1 locs1 hz1 hP1 hS1 => ?_)
        refine kk H1 locs1 lA cells slots ⟨?_, hR.2.1, fun q => by rw [hz1]; exact hR.2.2 q⟩ hS1 hl h1 h2
        rw [zW_set (h' := zsI h a i.toNatClampNeg (vp_nar .byte v)) hq rfl (fun b hb k n => zE_sI hb), zE_B]
        have e : (zsI h a i.toNatClampNeg (vp_nar .byte v)).2.1 a = upd (h.2.1 a) i.toNatClampNeg (vp_nar .byte v) := by
          funext j
          simp [zsI, zup, upd]
        rw [e]
        exact hP1
      · cases hz
    · cases hz
  · cases hz
theorem zs_last {a n : Nat} {i : Int32} {v : Int64} (cx : zX p s m args meth c B sp cA D mi) (hd : decode mi.1 pc = .ok (.lastore, 1)) (hq : zsh h a = some (15, n)) (hi : zin i n = true)
    (kk : zK p l e R s m args below meth c Q B sp cA D mi c0 s0 (pc + 1, ls, st, zsL h a i.toNatClampNeg v)) : zK p l e R s m args below meth c Q B sp cA D mi c0 s0 (pc, ls, .inr (.inl v) :: .inl i :: .inr (.inr (some a)) :: st, h) := by
  intro H locs lA cells slots hR hS hl h1 h2
  obtain ⟨hx, hb, hml, hown, hts, hin, hC⟩ := cx
  show W p l e R s m args below meth c H locs cells slots Q (F0 m pc lA (.long v :: .int i :: zcv B sp (.inr (.inr (some a))) :: st.map (zcv B sp)))
  rw [zcv_ref (zok_lt hR.2.1 hq)]
  refine zp_last hx hb hC.1 hR.1 zW_D hS a 2 (zW_get hq) rfl (zin_in hi) hd (fun H1 locs1 hz1 hP1 hS1 => ?_)
  refine kk H1 locs1 lA cells slots ⟨?_, hR.2.1, fun q => by rw [hz1]; exact hR.2.2 q⟩ hS1 hl h1 h2
  show va_P D vwCl (zW B sp cA (zsL h a i.toNatClampNeg v)) H1
  rw [zW_set (h' := zsL h a i.toNatClampNeg v) hq rfl (fun b hb k n => zE_sL hb), zE_J]
  have e : (zsL h a i.toNatClampNeg v).2.2.1 a = vp_updL (h.2.2.1 a) i.toNatClampNeg v := by
    funext j
    simp [zsL, zup, vp_updL]
  rw [e]
  exact hP1
theorem zs_aast {a k n v nv : Nat} {i : Int32} (cx : zX p s m args meth c B sp cA D mi) (hd : decode mi.1 pc = .ok (.aastore, 1)) (hq : zsh h a = some (k, n)) (hv : zsh h v = some (zrc k, nv)) (hk : 16 ≤ k) (hk2 : k ≤ 20) (hi : zin i n = true)
    (kk : zK p l e R s m args below meth c Q B sp cA D mi c0 s0 (pc + 1, ls, st, zsR h a i.toNatClampNeg (some v))) : zK p l e R s m args below meth c Q B sp cA D mi c0 s0 (pc, ls, .inr (.inr (some v)) :: .inl i :: .inr (.inr (some a)) :: st, h) := by
  intro H locs lA cells slots hR hS hl h1 h2
  obtain ⟨hx, hb, hml, hown, hts, hin, hC⟩ := cx
  show W p l e R s m args below meth c H locs cells slots Q (F0 m pc lA (zcv B sp (.inr (.inr (some v))) :: .int i :: zcv B sp (.inr (.inr (some a))) :: st.map (zcv B sp)))
  rw [zcv_ref (zok_lt hR.2.1 hq), zcv_ref (zok_lt hR.2.1 hv)]
  have hrc : zrc k < 13 := by
    have : k = 16 ∨ k = 17 ∨ k = 18 ∨ k = 19 ∨ k = 20 := by omega
    rcases this with rfl | rfl | rfl | rfl | rfl <;> decide
  have hW := zW_get (B := B) (sp := sp) (cA := cA) hq
  rw [zE_R hk] at hW
  have hWv := zW_get (B := B) (sp := sp) (cA := cA) hv
  rw [zE_obj hrc] at hWv
  refine zp_astq hx hb hC.1 hR.1 zW_D hS a (k - 13) v (zrc k) hW (r := (zRn (zrc k), zTT (zrc k), (zft (zrc k)).length)) (ztys_R hk hk2) hWv (zcl_cl hrc) (zin_in hi) hd (fun H1 locs1 hz1 hP1 hS1 => ?_)
  refine kk H1 locs1 lA cells slots ⟨?_, hR.2.1, fun q => by rw [hz1]; exact hR.2.2 q⟩ hS1 hl h1 h2
  show va_P D vwCl (zW B sp cA (zsR h a i.toNatClampNeg (some v))) H1
  rw [zW_set (h' := zsR h a i.toNatClampNeg (some v)) hq rfl (fun b hb k n => zE_sR hb), zE_R hk]
  have e : (fun j => ((zsR h a i.toNatClampNeg (some v)).2.2.2.1 a j).map (zad B sp)) = va_up (fun j => (h.2.2.2.1 a j).map (zad B sp)) i.toNatClampNeg (some (B + v)) := by
    funext j
    by_cases hj : j = i.toNatClampNeg
    · subst hj
      have := zok_lt hR.2.1 hv
      simp [zsR, zup, va_up, zad, this]
    · simp [zsR, zup, va_up, hj]
  rw [e]
  exact hP1
theorem zs_alen {a : Nat} {v : Int32} {scr : Option (Nat × (Nat → Int32))} (cx : zX p s m args meth c B sp cA D mi) (hd : decode mi.1 pc = .ok (.arraylength, 1)) (hz : zlen scr h a = some v) (hscr : ∀ L xs, scr = some (L, xs) → va_X (sp 1000000) L xs s s.heap ∧ sp 1000000 < s.heap.size ∧ sp 1000000 < B)
    (kk : zK p l e R s m args below meth c Q B sp cA D mi c0 s0 (pc + 1, ls, .inl v :: st, h)) : zK p l e R s m args below meth c Q B sp cA D mi c0 s0 (pc, ls, .inr (.inr (some a)) :: st, h) := by
  intro H locs lA cells slots hR hS hl h1 h2
  have k' := kk H locs lA cells slots hR hS hl h1 h2
  obtain ⟨hx, hb, hml, hown, hts, hin, hC⟩ := cx
  show W p l e R s m args below meth c H locs cells slots Q (F0 m pc lA (zcv B sp (.inr (.inr (some a))) :: st.map (zcv B sp)))
  unfold zlen at hz
  split at hz
  · next k n hq =>
    split at hz
    · next hk =>
      cases hz
      rw [zcv_ref (zok_lt hR.2.1 hq)]
      have h20 := hR.2.1.2 a _ hq
      have hW := zW_get (B := B) (sp := sp) (cA := cA) hq
      have h3 : k = 13 ∨ k = 14 ∨ k = 15 ∨ 16 ≤ k := by omega
      rcases h3 with rfl | rfl | rfl | h3
      · exact va_alen hx hb hC.1 hR.1 a 0 hW rfl rfl hd k'
      · exact va_alen hx hb hC.1 hR.1 a 1 hW rfl rfl hd k'
      · exact va_alen hx hb hC.1 hR.1 a 2 hW rfl rfl hd k'
      · rw [zE_R h3] at hW
        exact va_alen hx hb hC.1 hR.1 a (k - 13) hW (ztys_R h3 h20) rfl hd k'
    · cases hz
  · split at hz
    · next hq =>
      subst hq
      obtain ⟨⟨L, xs⟩, hs1, hs2⟩ := Option.map_eq_some_iff.mp hz
      obtain ⟨hX, hbl, hbB⟩ := hscr L xs hs1
      have e4 : zcv B sp (.inr (.inr (some 1000000))) = .ref (sp 1000000) := rfl
      rw [e4]
      subst hs2
      exact va_slen hx hb hX hbl (Nat.not_le.mpr hbB) hS hd k'
    · cases hz
end ZS3
end Pk0
section Pk1
/-! new cells, the JDK's own, calls -/
section ZP4
variable {p : Program} {l : Launch} {e : Env} {R : Room} {s : State} {m : MethodId} {args : Array Value} {below : List Frame} {meth : Method} {c : Code} {H : Heap} {locs : List Loc} {cells slots : Nat} {Q : State → Prop}
variable {cc : ByteArray} {pc : Nat} {ls : Array Slot} {rest : List Value} {D : va_G} {cl : List vw_C} {A : Nat → Prop} {a : Nat} {tys : List (ClassId × FieldType)} {ws : va_W} {H0 : Heap}
/-- System.arraycopy of ints, which leaves the heap's size -/
theorem zp_copyi (hexec : p.tables.exec = Jvm.exec) (hb : c.code = cc) (hml : c.maxLocals = ls.size) {own : String} {index : Nat} (hown : s.vm.findClass own = some m.cls) (hlink : (Cond.methodLink own index arraycopyName).before args s = true) (hnat : (Cond.native arraycopyName).before args s = true) (hstat : (Cond.static arraycopyName).before args s = true) (hini : (Cond.initialized "java/lang/System").before args s = true)
    (hK : va_K D cl tys s) (hP : va_P D cl ws H) (hD : va_D A ws) (hS : va_S A H0 H locs) (q0 q1 t0 t1 : Nat) {a0 : Nat} {c0 c1 : ClassId} {n0 n1 : Nat} {f g : Nat → Int32} (ha0 : ws[q0]? = some (a0, .inl (c0, n0, .inl f))) (ha1 : ws[q1]? = some (a, .inl (c1, n1, .inl g))) (ht0 : tys[t0]? = some (c0, .int)) (ht1 : tys[t1]? = some (c1, .int))
    {sp dp n : Int32} (h1 : ¬ sp < 0) (h2 : ¬ dp < 0) (h3 : ¬ n < 0) (h4 : sp.toNatClampNeg + n.toNatClampNeg ≤ n0) (h5 : dp.toNatClampNeg + n.toNatClampNeg ≤ n1)
    (hframes : 1 ≤ R.frames) (hlocals : (rest.map fun v => v.category).sum + 18 ≤ R.locals) (hdg : decode cc pc = .ok (.invokestatic index, 3))
    (kk : ∀ (H1 : Heap) (locs1 : List Loc), H1.size = H.size → va_P D cl (ws.set q1 (a, .inl (c1, n1, .inl (va_cpy f g sp.toNatClampNeg dp.toNatClampNeg n.toNatClampNeg)))) H1 → va_S A H0 H1 locs1 → W p l e R s m args below meth c H1 locs1 cells slots Q (F0 m (pc + 3) ls rest)) : W p l e R s m args below meth c H locs cells slots Q (F0 m pc ls (.int n :: .int dp :: .ref a :: .int sp :: .ref a0 :: rest)) := by
  have nn : ∀ z : Int32, ¬ z < 0 → z.toInt = (z.toNatClampNeg : Int) := by
    intro z hz
    have hz0 : (0 : Int) ≤ z.toInt := by
      have := Int32.not_lt.mp hz
      simpa using Int32.le_iff_toInt_le.mp this
    show z.toInt = ((z.toInt.toNat : Nat) : Int)
    omega
  intro T hT X
  have hc0 : H[a0]? = some (vp_cell c0 (n0, .inl f)) := hP q0 _ ha0
  have hc1 : H[a]? = some (vp_cell c1 (n1, .inl g)) := hP q1 _ ha1
  obtain ⟨-, k0, hk0, cm0, hkk0⟩ := (hK.2 t0 _ ht0).1 n0 (fun j => .int (f j))
  obtain ⟨-, k1, hk1, cm1, hkk1⟩ := (hK.2 t1 _ ht1).1 n1 (fun j => .int (g j))
  obtain ⟨vm', X', step⟩ := X.arraycopy hexec hown hlink hnat hstat hini (src := a0) (dst := a) (cs := vp_cell c0 (n0, .inl f)) (cd := vp_cell c1 (n1, .inl g)) (srcPos := sp) (destPos := dp) (n := n) (by rw [hT]; exact hc0) (by rw [hT]; exact hc1)
    (fun _ h => by cases h) (fun _ h => by cases h) (fun h => by cases h) (fun h => by cases h) hk0 hk1 hkk0 hkk1 (by simp [refKind]) h1 h2 h3
    (by rw [nn sp h1, nn n h3]; show ¬ _ > ((arrV c0 n0 (fun j => .int (f j))).slots.size : Int); rw [arrV_size]; omega)
    (by rw [nn dp h2, nn n h3]; show ¬ _ > ((arrV c1 n1 (fun j => .int (g j))).slots.size : Int); rw [arrV_size]; omega)
    (fun vm₁ _ i hi => by
      have e : (vp_cell c0 (n0, .inl f)).slots.getD (sp.toNatClampNeg + i) .null = .int (f (sp.toNatClampNeg + i)) := by
        show (arrV c0 n0 (fun j => .int (f j))).slots.getD _ _ = _
        rw [Array.getD_eq_getD_getElem?, arrV_read _ _ (by omega)]
        rfl
      refine ⟨?_, ?_⟩
      · rw [e]
        rfl
      · rw [e]
        exact trivial)
    (g := F0 m pc ls (.int n :: .int dp :: .ref a :: .int sp :: .ref a0 :: rest)) rfl (by rw [hml]) (rest := rest) rfl (by rw [hb]; exact hdg) hframes (by show 2 * 0 + _ + (7 + 11) ≤ _; omega)
  have e1 : copied (vp_cell c0 (n0, .inl f)) (vp_cell c1 (n1, .inl g)) sp dp n = vp_cell c1 (n1, .inl (va_cpy f g sp.toNatClampNeg dp.toNatClampNeg n.toNatClampNeg)) := va_copied (fun z => .int z) c0 c1 f g h4
  rw [e1] at X' step
  have hl : a < H.size := (Array.getElem?_eq_some_iff.mp hc1).1
  have hheap : ((T.setVm vm').setCell a (vp_cell c1 (n1, .inl (va_cpy f g sp.toNatClampNeg dp.toNatClampNeg n.toNatClampNeg)))).heap = H.setIfInBounds a (vp_cell c1 (n1, .inl (va_cpy f g sp.toNatClampNeg dp.toNatClampNeg n.toNatClampNeg))) := by rw [← hT]; rfl
  have oq : ∀ q : Nat, q ≠ a → (H.setIfInBounds a (vp_cell c1 (n1, .inl (va_cpy f g sp.toNatClampNeg dp.toNatClampNeg n.toNatClampNeg))))[q]? = H[q]? := fun q hq => by simp [Array.getElem?_setIfInBounds, Ne.symm hq]
  obtain ⟨t, a1, b1⟩ := kk _ _ (by simp) (hP.set hD ha1 (show (H.setIfInBounds a _)[a]? = some _ by simp [Array.getElem?_setIfInBounds, hl]) oq) ⟨by simp; exact hS.1, fun q g1 g2 => by
      rw [oq q (fun e => g2 (by rw [e]; exact hD.2 q1 _ ha1))]
      exact hS.2.1 q g1 g2, fun q hq => by
      rcases List.mem_append.mp hq with h | h
      · exact hS.2.2 q h
      · obtain ⟨z, -, hz⟩ := List.mem_map.mp h
        rw [← hz]
        exact hD.2 q1 _ ha1⟩ _ hheap X'
  exact ⟨t, step t a1, b1⟩
end ZP4
section ZS4
variable {p : Program} {l : Launch} {e : Env} {R : Room} {s : State} {m : MethodId} {args : Array Value} {below : List Frame} {meth : Method} {c : Code} {Q : State → Prop} {B : Nat} {sp : Nat → Nat} {cA : Nat → ClassId} {D : va_G} {mi : zM} {c0 s0 : Nat}
variable {pc len : Nat} {ls : zL} {st : List zV} {h : zH}
theorem zok_new {k n : Nat} (hk : zok h) (h20 : k ≤ 20) (hl : h.1.1 < 900000) : zok (znew h k n) := by
  refine ⟨by show h.1.1 + 1 ≤ 900000; omega, fun a q hq => ?_⟩
  have hl := zsh_lt hq
  have he := zsh_eq hq
  simp only [znew] at hl he
  by_cases ha : a = h.1.1
  · rw [if_pos ha] at he
    subst he
    exact h20
  · rw [if_neg ha] at he
    exact hk.2 a q (by unfold zsh; rw [if_pos (by omega), he])
theorem zc_new {k n : Nat} : zc (znew h k n) = zc h + 1 := by simp [zc, znew]; omega
theorem zt_new {k n : Nat} : zt (znew h k n) = zt h + n := by simp [zt, znew]; omega
theorem zcls_get {o k ci : Nat} (hz : zcls o k = some ci) (hci : ci < 13) : Cond.classLink (zRn o) k (zRn ci) ∈ zws := by
  unfold zcls at hz
  obtain ⟨q, h1, h2⟩ := Option.map_eq_some_iff.mp hz
  have hm := zlook_mem h1
  have ho : o < 19 := zget_own hm
  have hc := List.all_eq_true.mp (List.all_eq_true.mp zclsK o (List.mem_range.mpr ho)) _ hm
  cases h2
  unfold zclsC at hc
  rw [if_pos hci] at hc
  simp only [Bool.and_eq_true, decide_eq_true_eq] at hc
  exact zws_in hc.1 hc.2
theorem zins_get {ci : Nat} (hci : ci < 13) : Cond.instantiable (zRn ci) (zft ci).length ∈ zws ∧ Cond.initialized (zRn ci) ∈ zws := by
  have hc := List.all_eq_true.mp zinsK ci (List.mem_range.mpr hci)
  simp only [Bool.and_eq_true, decide_eq_true_eq] at hc
  exact ⟨zws_in hc.1.1.1 hc.1.1.2, zws_in hc.1.2 hc.2⟩
theorem zs_new {k ci : Nat} (cx : zX p s m args meth c B sp cA D mi) (hd : decode mi.1 pc = .ok (.new k, 3)) (hz : zcls mi.2.1 k = some ci) (hci : ci < 13) (hcnt : h.2.2.2.2 = 0) (hlen : h.1.1 < 900000) (hr1 : zc (znew h ci (zft ci).length) ≤ c0 + R.cells) (hr2 : zt (znew h ci (zft ci).length) ≤ s0 + R.slots)
    (kk : zK p l e R s m args below meth c Q B sp cA D mi c0 s0 (pc + 3, ls, .inr (.inr (some h.1.1)) :: st, znew h ci (zft ci).length)) : zK p l e R s m args below meth c Q B sp cA D mi c0 s0 (pc, ls, st, h) := by
  intro H locs lA cells slots hR hS hl h1 h2
  obtain ⟨hx, hb, hml, hown, hts, hin, hC⟩ := cx
  have hsz := hR.2.2 hcnt
  dsimp only at h1 h2
  rw [zc_new] at hr1
  rw [zt_new] at hr2
  refine zp_new (fs := zfs B sp (znew h ci (zft ci).length) h.1.1 ci) hx hb hts (zcl_ws hci) (zty ci) (zcl_ty hci) hown (hts _ (zcls_get hz hci)) (hts _ (zins_get hci).1) (hts _ (zins_get hci).2) hC.1 hR.1 hS (zcl_cl hci) (fun j hj => ?_) (by omega) (by omega) hd (fun H1 hz1 hP1 hS1 => ?_)
  · have hk := (zft_get hci hj).1
    have e1 : vp_V (zfs B sp (znew h ci (zft ci).length) h.1.1 ci) j = zcv B sp (zfv (znew h ci (zft ci).length) ci h.1.1 j) := by
      simp [vp_V, List.getD, zfs_get hj]
    rw [e1]
    have e2 : (zft ci).getD j 0 = (zft ci).getD j 9 := by simp [List.getD, hj]
    unfold zfv
    rw [e2]
    unfold zftok at hk
    split at hk
    · next q =>
      rw [q, of_decide_eq_true hk]
      simp [znew, zrow, zcv, defaultValue]
    · next q =>
      rw [q, of_decide_eq_true hk]
      simp [znew, zrow, zcv, defaultValue]
    · next q =>
      rw [q]
      generalize zty ci j = ty at hk
      cases ty <;> first | (cases hk; done) | simp [znew, zrow, zcv, defaultValue, va_rf]
    · cases hk
  · have e3 : zcv B sp (.inr (.inr (some h.1.1))) = .ref H.size := by rw [zcv_ref (by omega), hsz]
    have k' := kk H1 locs lA (cells + 1) (slots + (zft ci).length) ⟨?_, zok_new hR.2.1 (by omega) hlen, fun _ => by rw [hz1, hsz]; simp [znew]; omega⟩ hS1 hl (by show c0 + (cells + 1) = zc (znew h ci (zft ci).length); rw [zc_new]; omega) (by show s0 + (slots + (zft ci).length) = zt (znew h ci (zft ci).length); rw [zt_new]; omega)
    · have k2 : W p l e R s m args below meth c H1 locs (cells + 1) (slots + (zft ci).length) Q (F0 m (pc + 3) lA (zcv B sp (.inr (.inr (some h.1.1))) :: st.map (zcv B sp))) := k'
      rw [e3] at k2
      exact k2
    · show va_P D vwCl (zW B sp cA (znew h ci (zft ci).length)) H1
      rw [zW_new (h := h) (k := ci) (n := (zft ci).length) (fun b hb k n => zE_new hb), zE_obj hci, ← hsz]
      exact hP1
theorem zs_newa {n : Int32} {t : ArrayType} {kd : Nat} (cx : zX p s m args meth c B sp cA D mi) (hd : decode mi.1 pc = .ok (.newarray t, 2)) (ht : (t = .byte ∧ kd = 13) ∨ (t = .int ∧ kd = 14) ∨ (t = .long ∧ kd = 15)) (hcnt : h.2.2.2.2 = 0) (hlen : h.1.1 < 900000) (hn : ¬ n < 0) (hN : n.toNatClampNeg ≤ 100000) (hr1 : zc (znew h kd n.toNatClampNeg) ≤ c0 + R.cells) (hr2 : zt (znew h kd n.toNatClampNeg) ≤ s0 + R.slots)
    (kk : zK p l e R s m args below meth c Q B sp cA D mi c0 s0 (pc + 2, ls, .inr (.inr (some h.1.1)) :: st, znew h kd n.toNatClampNeg)) : zK p l e R s m args below meth c Q B sp cA D mi c0 s0 (pc, ls, .inl n :: st, h) := by
  intro H locs lA cells slots hR hS hl h1 h2
  obtain ⟨hx, hb, hml, hown, hts, hin, hC⟩ := cx
  have hsz := hR.2.2 hcnt
  dsimp only at h1 h2
  rw [zc_new] at hr1
  rw [zt_new] at hr2
  have e3 : zcv B sp (.inr (.inr (some h.1.1))) = .ref H.size := by rw [zcv_ref (by omega), hsz]
  have fin : ∀ (H1 : Heap), kd ≤ 20 → H1.size = H.size + 1 → va_P D vwCl (zW B sp cA h ++ [(H.size, zE B sp cA (znew h kd n.toNatClampNeg) h.1.1 kd n.toNatClampNeg)]) H1 → va_S (zAr B) s.heap H1 locs → W p l e R s m args below meth c H1 locs (cells + 1) (slots + n.toNatClampNeg) Q (F0 m (pc + 2) lA (.ref H.size :: st.map (zcv B sp))) := by
    intro H1 h20 hz1 hP1 hS1
    have k' := kk H1 locs lA (cells + 1) (slots + n.toNatClampNeg) ⟨by
      show va_P D vwCl (zW B sp cA (znew h kd n.toNatClampNeg)) H1
      rw [zW_new (h := h) (k := kd) (n := n.toNatClampNeg) (fun b hb k n => zE_new hb), ← hsz]
      exact hP1, zok_new hR.2.1 h20 hlen, fun _ => by rw [hz1, hsz]; simp [znew]; omega⟩ hS1 hl (by show c0 + (cells + 1) = zc (znew h kd n.toNatClampNeg); rw [zc_new]; omega) (by show s0 + (slots + n.toNatClampNeg) = zt (znew h kd n.toNatClampNeg); rw [zt_new]; omega)
    have k2 : W p l e R s m args below meth c H1 locs (cells + 1) (slots + n.toNatClampNeg) Q (F0 m (pc + 2) lA (zcv B sp (.inr (.inr (some h.1.1))) :: st.map (zcv B sp))) := k'
    rw [e3] at k2
    exact k2
  have z0 : (znew h kd n.toNatClampNeg).2.1 h.1.1 = fun _ => 0 := by funext j; simp [znew, zrow]
  have z1 : (znew h kd n.toNatClampNeg).2.2.1 h.1.1 = fun _ => 0 := by funext j; simp [znew, zrow]
  rcases ht with ⟨rfl, rfl⟩ | ⟨rfl, rfl⟩ | ⟨rfl, rfl⟩
  · refine zp_newa (a0 := (n.toNatClampNeg, .inl (fun _ => 0))) (cX := cA 13) (atype := .byte) hx hb (hts _ zarrK.1) hR.1 hS (hC.1.2 0 _ rfl).2 rfl hn rfl (by show n.toNatClampNeg * 1 ≤ _; omega) (by omega) (by omega) hd (fun H1 hz1 hP1 hS1 => fin H1 (by decide) hz1 ?_ hS1)
    rw [zE_B, z0]
    exact hP1
  · refine zp_newa (a0 := (n.toNatClampNeg, .inl (fun _ => 0))) (cX := cA 14) (atype := .int) hx hb (hts _ zarrK.2.1) hR.1 hS (hC.1.2 1 _ rfl).2 rfl hn rfl (by show n.toNatClampNeg * 4 ≤ _; omega) (by omega) (by omega) hd (fun H1 hz1 hP1 hS1 => fin H1 (by decide) hz1 ?_ hS1)
    rw [zE_I, z0]
    exact hP1
  · refine zp_newa (a0 := (n.toNatClampNeg, .inr (.inl (fun _ => 0)))) (cX := cA 15) (atype := .long) hx hb (hts _ zarrK.2.2) hR.1 hS (hC.1.2 2 _ rfl).2 rfl hn rfl (by show n.toNatClampNeg * 8 ≤ _; omega) (by omega) (by omega) hd (fun H1 hz1 hP1 hS1 => fin H1 (by decide) hz1 ?_ hS1)
    rw [zE_J, z1]
    exact hP1
theorem zak_rc {ci : Nat} (h1 : 16 ≤ zak ci) (h2 : zak ci ≤ 20) : zrc (zak ci) = ci ∧ ci < 13 := by
  unfold zak at h1 h2 ⊢
  split at h1 <;> first | exact ⟨rfl, by decide⟩ | (exact absurd h1 (by decide))
theorem zs_newq {k ci : Nat} {n : Int32} (cx : zX p s m args meth c B sp cA D mi) (hd : decode mi.1 pc = .ok (.anewarray k, 3)) (hz : zcls mi.2.1 k = some ci) (hk1 : 16 ≤ zak ci) (hk2 : zak ci ≤ 20) (hcnt : h.2.2.2.2 = 0) (hlen : h.1.1 < 900000) (hn : ¬ n < 0) (hN : n.toNatClampNeg ≤ 100000) (hr1 : zc (znew h (zak ci) n.toNatClampNeg) ≤ c0 + R.cells) (hr2 : zt (znew h (zak ci) n.toNatClampNeg) ≤ s0 + R.slots)
    (kk : zK p l e R s m args below meth c Q B sp cA D mi c0 s0 (pc + 3, ls, .inr (.inr (some h.1.1)) :: st, znew h (zak ci) n.toNatClampNeg)) : zK p l e R s m args below meth c Q B sp cA D mi c0 s0 (pc, ls, .inl n :: st, h) := by
  intro H locs lA cells slots hR hS hl h1 h2
  obtain ⟨hx, hb, hml, hown, hts, hin, hC⟩ := cx
  have hsz := hR.2.2 hcnt
  dsimp only at h1 h2
  rw [zc_new] at hr1
  rw [zt_new] at hr2
  obtain ⟨hrc, hci⟩ := zak_rc hk1 hk2
  have hAO := hC.2.2.2.1 (zak ci) hk1 hk2
  rw [hrc] at hAO
  have hty := ztys_R (cA := cA) hk1 hk2
  rw [hrc] at hty
  obtain ⟨kA, comp, -, -, -, hfc⟩ := (hC.1.2 _ _ hty).2
  have e3 : zcv B sp (.inr (.inr (some h.1.1))) = .ref H.size := by rw [zcv_ref (by omega), hsz]
  have z2 : (fun j => ((znew h (zak ci) n.toNatClampNeg).2.2.2.1 h.1.1 j).map (zad B sp)) = fun _ => none := by funext j; simp [znew, zrow]
  refine zp_newq (cX := cA (zak ci)) hx hb hown (hts _ (zcls_get hz hci)) hAO hR.1 hS hfc hn rfl (by omega) (by omega) (by omega) hd (fun H1 hz1 hP1 hS1 => ?_)
  have k' := kk H1 locs lA (cells + 1) (slots + n.toNatClampNeg) ⟨by
    show va_P D vwCl (zW B sp cA (znew h (zak ci) n.toNatClampNeg)) H1
    rw [zW_new (h := h) (k := (zak ci)) (n := n.toNatClampNeg) (fun b hb k n => zE_new hb), ← hsz, zE_R hk1, z2]
    exact hP1, zok_new hR.2.1 hk2 hlen, fun _ => by rw [hz1, hsz]; simp [znew]; omega⟩ hS1 hl (by show c0 + (cells + 1) = zc (znew h (zak ci) n.toNatClampNeg); rw [zc_new]; omega) (by show s0 + (slots + n.toNatClampNeg) = zt (znew h (zak ci) n.toNatClampNeg); rw [zt_new]; omega)
  have k2 : W p l e R s m args below meth c H1 locs (cells + 1) (slots + n.toNatClampNeg) Q (F0 m (pc + 3) lA (zcv B sp (.inr (.inr (some h.1.1))) :: st.map (zcv B sp))) := k'
  rw [e3] at k2
  exact k2
end ZS4
end Pk1
section Pk2
/-! calls -/
def zPc (B : Nat) (sp : Nat → Nat) (cA : Nat → ClassId) (D : va_G) (vs : List zV) (h : zH) : Array Value → State → Prop := va_Pc (vs.map (zcv B sp)) (fun U => zCx B sp cA D U ∧ zRel B sp cA D h U.heap)
def zQc (B : Nat) (sp : Nat → Nat) (cA : Nat → ClassId) (D : va_G) (v : Option zV) (h' : zH) : Array Value → State → Outcome → State → Prop := match v with
  | none => va_Qv (S := Unit) (fun _ => True) (fun _ t => zRel B sp cA D h' t.heap) (zAr B)
  | some (.inl x) => va_Qi (S := Unit) (fun r _ => r = x) (fun _ t => zRel B sp cA D h' t.heap) (zAr B)
  | some (.inr (.inl x)) => va_Ql (S := Unit) (fun r _ => r = x) (fun _ t => zRel B sp cA D h' t.heap) (zAr B)
  | some (.inr (.inr _)) => fun _ _ _ _ => False
def zrm (d mc ms : Nat) : Room := { frames := d + 4, cells := mc, slots := ms, locals := 60 * (d + 4) }
def zMet (l : Launch) (B : Nat) (sp : Nat → Nat) (cA : Nat → ClassId) (D : va_G) (d : Nat) (cm : zM) (vs : List zV) (h : zH) (v : Option zV) (h' : zH) : Prop :=
  Met l cm.2.2.2.2.1 (zwsM cm) (zrm d (zc h' - zc h) (zt h' - zt h)) (zPc B sp cA D vs h) (zQc B sp cA D v h') (zc h' - zc h) (zt h' - zt h) (zAr B)
theorem zPc_blind {B : Nat} {sp : Nat → Nat} {cA : Nat → ClassId} {D : va_G} {vs : List zV} {h : zH} : FrameBlind (zPc B sp cA D vs h) := by
  intro a U g mk q
  obtain ⟨q0, q1, q2⟩ := q
  exact ⟨q0, ⟨va_K.moved (u := U) (U := U.calling g mk a) (Vm.Alike.refl U.vm) q1.1, fun x hx => va_Nw.same rfl rfl (q1.2.1 x hx), fun x hx => vk_R.same rfl (q1.2.2.1 x hx), fun k h1 h2 => va_AO.moved (u := U) (U := U.calling g mk a) (Vm.Alike.refl U.vm) (q1.2.2.2.1 k h1 h2), q1.2.2.2.2.1, zSg.moved (u := U) (U := U.calling g mk a) (Vm.Alike.refl U.vm) q1.2.2.2.2.2.1, va_Nw.same rfl rfl q1.2.2.2.2.2.2⟩, q2⟩
section ZS5
variable {p : Program} {l : Launch} {e : Env} {R : Room} {s : State} {m : MethodId} {args : Array Value} {below : List Frame} {meth : Method} {c : Code} {Q : State → Prop} {B : Nat} {sp : Nat → Nat} {cA : Nat → ClassId} {D : va_G} {mi : zM} {c0 s0 : Nat}
variable {pc len : Nat} {ls : zL} {st : List zV} {h : zH}
theorem zmth_get {o k kd na : Nat} {cm : zM} (hz : zmth o k = some (kd, na, cm)) : ∃ pl pi ps pn : Nat, zmthC o (k, kd, na, cm, pl, pi, ps, pn) = true ∧ (kd < 5 → zMok cm) := by
  unfold zmth at hz
  obtain ⟨q, h1, h2⟩ := Option.map_eq_some_iff.mp hz
  have hm := zlook_mem h1
  have ho : o < 19 := zget_own hm
  have hc := List.all_eq_true.mp (zmthK o ho) _ hm
  have hM := zmM o ho _ hm
  obtain ⟨a, b, cc, d1, d2, d3, d4⟩ := q
  cases h2
  exact ⟨d1, d2, d3, d4, hc, hM⟩
/-- the words that a callee needs hold whenever the tables have been warmed -/
theorem zws_pay (hts : ∀ w ∈ zws, w.before args s = true) {cm : zM} (hM : zMok cm) : ∀ w ∈ zwsM cm, ∀ (a' : Array Value) (U : State), s.WarmedH U.vm → w.before a' U = true := by
  intro w hw a' U hW
  have hw' : w ∈ zws := by
    rcases List.mem_cons.mp hw with rfl | q
    · exact hM.1
    · exact q
  exact word_at hW (zws_good w hw') (hts w hw')
theorem zs_after {v : Option zV} {h' : zH} {rest : List zV} {H : Heap} {locs : List Loc} {lA : Array Slot} {cells slots : Nat} {a : Array Value} {st0 : List Value} (hle1 : zc h ≤ zc h') (hle2 : zt h ≤ zt h') (h1 : c0 + cells = zc h) (h2 : s0 + slots = zt h) (hS : va_S (zAr B) s.heap H locs) (hl : lv_has lA mi.2.2.1 (zlv B sp ls))
    (hr : va_Run p l e R s m args below meth c H locs cells slots (zc h' - zc h) (zt h' - zt h) (F0 m pc lA st0) (rest.map (zcv B sp)) (zQc B sp cA D v h' a) (zAr B))
    (kk : zK p l e R s m args below meth c Q B sp cA D mi c0 s0 (pc + 3, ls, v.toList ++ rest, h')) : W p l e R s m args below meth c H locs cells slots Q (F0 m pc lA st0) := by
  match v, hr, kk with
  | none, hr, kk =>
    refine va_callv (a := a) hr hS (fun q _ h => h) (fun q h => h) (fun u t H1 locs1 ht hvm hw hB hz1 hk1 hS1 => ?_)
    exact kk H1 locs1 lA _ _ (by rw [← ht]; exact hB) hS1 hl (by show c0 + (cells + (zc h' - zc h)) = zc h'; omega) (by show s0 + (slots + (zt h' - zt h)) = zt h'; omega)
  | some (.inl x), hr, kk =>
    refine va_calli (a := a) hr hS (fun q _ h => h) (fun q h => h) (fun r u t H1 locs1 ht hvm hw hB hz1 hk1 hS1 => ?_)
    have hw : r = x := hw
    subst hw
    exact kk H1 locs1 lA _ _ (by rw [← ht]; exact hB) hS1 hl (by show c0 + (cells + (zc h' - zc h)) = zc h'; omega) (by show s0 + (slots + (zt h' - zt h)) = zt h'; omega)
  | some (.inr (.inl x)), hr, kk =>
    refine va_calll (a := a) hr hS (fun q _ h => h) (fun q h => h) (fun r u t H1 locs1 ht hvm hw hB hz1 hk1 hS1 => ?_)
    have hw : r = x := hw
    subst hw
    exact kk H1 locs1 lA _ _ (by rw [← ht]; exact hB) hS1 hl (by show c0 + (cells + (zc h' - zc h)) = zc h'; omega) (by show s0 + (slots + (zt h' - zt h)) = zt h'; omega)
  | some (.inr (.inr r)), hr, kk =>
    intro T hT X
    obtain ⟨v, st₀, t, T', L, h0, X', hL, e1, e2, hq, st⟩ := hr T hT X
    exact hq.elim
theorem zs_call {k kd na d' : Nat} {cm : zM} {i : Instr} {v : Option zV} {h' : zH} {g : zC} (cx : zX p s m args meth c B sp cA D mi) (hd : decode mi.1 pc = .ok (i, 3)) (hi : (i = .invokevirtual k ∧ kd = 0) ∨ (i = .invokestatic k ∧ (kd = 1 ∨ kd = 3)) ∨ (i = .invokespecial k ∧ (kd = 2 ∨ kd = 4))) (hz : zmth mi.2.1 k = some (kd, na, cm))
    (call : zM → List zV → zH → Option zR) (hc : zcall call cm kd na pc ls st h = some (.inl g)) (hcall : ∀ vs v h', call cm vs h = some (v, h') → zMet l B sp cA D d' cm vs h v h' ∧ zc h ≤ zc h' ∧ zt h ≤ zt h')
    (hr1 : zc g.2.2.2 ≤ c0 + R.cells) (hr2 : zt g.2.2.2 ≤ s0 + R.slots) (hf : d' + 5 ≤ R.frames) (hlo : 60 * (d' + 5) ≤ R.locals)
    (kk : zK p l e R s m args below meth c Q B sp cA D mi c0 s0 g) : zK p l e R s m args below meth c Q B sp cA D mi c0 s0 (pc, ls, st, h) := by
  intro H locs lA cells slots hR hS hl h1 h2
  dsimp only at h1 h2 hl hR
  obtain ⟨hx, hb, hml, hown, hts, hin, hC⟩ := cx
  obtain ⟨pl, pi, ps, pn, hcc, hMk⟩ := zmth_get hz
  have hkd : kd < 5 := by rcases hi with ⟨-, q⟩ | ⟨-, q | q⟩ | ⟨-, q | q⟩ <;> omega
  have hM := hMk hkd
  unfold zcall at hc
  split at hc
  · next hlen =>
    obtain ⟨hna, hwd⟩ := hlen
    have hst : st = (st.take na).reverse.reverse ++ st.drop na := by rw [List.reverse_reverse, List.take_append_drop]
    have hvl : (st.take na).reverse.length = na := by simp; omega
    generalize hvs : (st.take na).reverse = vs at hc hst hvl
    generalize hrs : st.drop na = rest at hc hst hwd
    have hBody : ∀ U : State, U.heap = H → s.WarmedH U.vm → zPc B sp cA D vs h (vs.map (zcv B sp)).toArray U := fun U hU hW => ⟨rfl, hC.warm hW (by rw [hU]; exact Nat.le_trans hC.2.2.2.2.1 hS.1) (fun a h1 h2 => by rw [hU]; exact hS.2.1 a h1 h2), by rw [hU]; exact hR⟩
    have hroom : 2 * (F0 m pc lA (st.map (zcv B sp))).monitorRoom + ((rest.map (zcv B sp)).map fun v => v.category).sum ≤ 8 := by
      show 2 * 0 + _ ≤ 8
      rw [zwd_cv]
      omega
    have hB : ∀ {mc ms n : Nat} {rm : Room}, rm.cells = mc → rm.slots = ms → rm.frames = d' + 4 → rm.locals = 60 * (d' + 4) → (Cond.methodLink (zRn mi.2.1) k cm.2.2.2.2.1).before args s = true → (Cond.initialized cm.2.2.2.2.1.cls).before args s = true → (parseMethodDescriptor cm.2.2.2.2.1.desc).map (fun d => d.parameters.length) = some n →
        CallB R s args (zRn mi.2.1) k cm.2.2.2.2.1 cm.1 cm.2.2.1 cm.2.2.2.1 (zwsM cm) rm mc ms n := by
      intro mc ms n rm e1 e2 e3 e4 hl hini hp
      refine ⟨e1, e2, by omega, by have := hM.2.2.2.2.1; omega, zws_pay hts hM, List.mem_cons_self, hts _ hM.1, hini, hM.2.2.2.1, fun sig hs => ?_, hl⟩
      rw [hs] at hp
      exact (Option.some.inj hp).symm
    have hN : ∀ {mc ms n : Nat} {rm : Room} {host : String}, rm.cells = mc → rm.slots = ms → rm.frames = d' + 4 → rm.locals = 60 * (d' + 4) → (Cond.methodLinkNest (zRn mi.2.1) k cm.2.2.2.2.1 host).before args s = true → (Cond.initialized cm.2.2.2.2.1.cls).before args s = true → (parseMethodDescriptor cm.2.2.2.2.1.desc).map (fun d => d.parameters.length) = some n →
        va_CN R s args (zRn mi.2.1) k cm.2.2.2.2.1 host cm.1 cm.2.2.1 cm.2.2.2.1 (zwsM cm) rm mc ms n := by
      intro mc ms n rm host e1 e2 e3 e4 hl hini hp
      refine ⟨⟨e1, e2, by omega, by have := hM.2.2.2.2.1; omega, zws_pay hts hM, List.mem_cons_self⟩, hts _ hM.1, hini, hM.2.2.2.1, fun sig hs => ?_, hl⟩
      rw [hs] at hp
      exact (Option.some.inj hp).symm
    have hFix : CallFix p m c mi.1 mi.2.2.1 s args zws (zRn mi.2.1) := ⟨hx, hb, hml, hown, hts⟩
    have one : ∀ {x : Nat}, (parseMethodDescriptor cm.2.2.2.2.1.desc).map (fun d => d.parameters.length + 1) = some (x + 1) → (parseMethodDescriptor cm.2.2.2.2.1.desc).map (fun d => d.parameters.length) = some x := by
      intro x hx
      cases hpd : parseMethodDescriptor cm.2.2.2.2.1.desc with
      | none => rw [hpd] at hx; cases hx
      | some sig => rw [hpd] at hx; simp only [Option.map_some, Option.some.injEq] at hx ⊢; omega
    rcases hi with ⟨rfl, rfl⟩ | ⟨rfl, hk⟩ | ⟨rfl, hk⟩
    · -- virtual
      rw [if_neg (by decide)] at hc
      split at hc
      · next a vt =>
        split at hc
        · next k2 n2 hq =>
          split at hc
          · next hk2 =>
            obtain ⟨rfl, hci⟩ := hk2
            split at hc
            · next r h'' hcl =>
              cases hc
              obtain ⟨hMet, hle1, hle2⟩ := hcall _ _ _ hcl
              dsimp only at hr1 hr2
              simp only [zmthC, Bool.and_eq_true, decide_eq_true_eq] at hcc
              obtain ⟨⟨⟨⟨⟨⟨⟨⟨w1, g1⟩, w2⟩, g2⟩, w3⟩, g3⟩, w4⟩, g4⟩, w5⟩ := hcc
              have hlv : vt.length + 1 = na := by simpa using hvl
              rw [← hlv] at w5
              have hWq := zW_get (B := B) (sp := sp) (cA := cA) hq
              rw [zE_obj hci] at hWq
              refine zs_after (rest := rest) (a := (Value.ref (B + a) :: vt.map (zcv B sp)).toArray) hle1 hle2 h1 h2 hS hl ?_ kk
              exact va_runV (C := zRn cm.2.1) (b := B + a) (As := vt.map (zcv B sp)) (rest := rest.map (zcv B sp)) (g := F0 m pc lA (st.map (zcv B sp))) (n := vt.length) hFix hMet ⟨hB rfl rfl rfl rfl (hts _ (zws_in w1 g1)) (hts _ (zws_in w4 g4)) (one w5), hts _ (zws_in w2 g2), hts _ (zws_in w3 g3)⟩
                ⟨zPc_blind, va_recv hC.1 hR.1 (zcl_cl hci) hWq, fun U hU hW => by
                  have := hBody U hU hW
                  rw [List.map_cons, zcv_ref (zok_lt hR.2.1 hq)] at this
                  exact this⟩ rfl (by simp) hl.1 (by
                  show st.map (zcv B sp) = _
                  rw [hst]
                  simp [zcv_ref (zok_lt hR.2.1 hq)]) hroom hd ⟨by omega, by omega⟩
            · cases hc
          · cases hc
        · cases hc
      · cases hc
    · -- static
      rw [if_pos hk] at hc
      split at hc
      · next r h'' hcl =>
        cases hc
        obtain ⟨hMet, hle1, hle2⟩ := hcall _ _ _ hcl
        dsimp only at hr1 hr2
        refine zs_after (rest := rest) (a := (vs.map (zcv B sp)).toArray) hle1 hle2 h1 h2 hS hl ?_ kk
        have hstk : (F0 m pc lA (st.map (zcv B sp))).stack = (vs.map (zcv B sp)).reverse ++ rest.map (zcv B sp) := by
          show st.map (zcv B sp) = _
          rw [hst]
          simp
        rcases hk with rfl | rfl
        · simp only [zmthC, Bool.and_eq_true, decide_eq_true_eq] at hcc
          obtain ⟨⟨⟨⟨⟨⟨w1, g1⟩, w2⟩, g2⟩, w4⟩, g4⟩, w5⟩ := hcc
          exact va_runS (As := vs.map (zcv B sp)) (rest := rest.map (zcv B sp)) (g := F0 m pc lA (st.map (zcv B sp))) (n := na) hFix hMet ⟨hB rfl rfl rfl rfl (hts _ (zws_in w1 g1)) (hts _ (zws_in w4 g4)) w5, hts _ (zws_in w2 g2)⟩
            ⟨zPc_blind, hBody⟩ rfl (by simp; exact hvl) hl.1 hstk hroom hd ⟨by omega, by omega⟩
        · simp only [zmthC, Bool.and_eq_true, decide_eq_true_eq, List.any_eq_true] at hcc
          obtain ⟨⟨⟨⟨⟨⟨q, hq, ⟨e1, e2⟩, e3⟩, w2⟩, g2⟩, w4⟩, g4⟩, w5⟩ := hcc
          have hnw := va_Nw.use (A := args) rfl (hC.2.1 q hq)
          rw [e1, e2, e3] at hnw
          exact va_runSN (As := vs.map (zcv B sp)) (rest := rest.map (zcv B sp)) (g := F0 m pc lA (st.map (zcv B sp))) (n := na) hFix hMet ⟨hN rfl rfl rfl rfl hnw (hts _ (zws_in w4 g4)) w5, hts _ (zws_in w2 g2), trivial⟩
            ⟨zPc_blind, hBody⟩ rfl (by simp; exact hvl) hl.1 hstk hroom hd ⟨by omega, by omega⟩
      · cases hc
    · -- constructors
      rw [if_neg (by rcases hk with rfl | rfl <;> decide)] at hc
      split at hc
      · next a vt =>
        split at hc
        · next k2 n2 hq =>
          split at hc
          · next hk2 =>
            obtain ⟨rfl, hci⟩ := hk2
            split at hc
            · next r h'' hcl =>
              cases hc
              obtain ⟨hMet, hle1, hle2⟩ := hcall _ _ _ hcl
              dsimp only at hr1 hr2
              have hlv : vt.length + 1 = na := by simpa using hvl
              have hstk : (F0 m pc lA (st.map (zcv B sp))).stack = (vt.map (zcv B sp)).reverse ++ .ref (B + a) :: rest.map (zcv B sp) := by
                show st.map (zcv B sp) = _
                rw [hst]
                simp [zcv_ref (zok_lt hR.2.1 hq)]
              have hBody' : ∀ U : State, U.heap = H → s.WarmedH U.vm → zPc B sp cA D (.inr (.inr (some a)) :: vt) h (Value.ref (B + a) :: vt.map (zcv B sp)).toArray U := fun U hU hW => by
                have := hBody U hU hW
                rw [List.map_cons, zcv_ref (zok_lt hR.2.1 hq)] at this
                exact this
              refine zs_after (rest := rest) (a := (Value.ref (B + a) :: vt.map (zcv B sp)).toArray) hle1 hle2 h1 h2 hS hl ?_ kk
              rcases hk with rfl | rfl
              · simp only [zmthC, Bool.and_eq_true, decide_eq_true_eq] at hcc
                obtain ⟨⟨⟨⟨⟨⟨⟨⟨w1, g1⟩, w2⟩, g2⟩, w4⟩, g4⟩, w5⟩, w6⟩, w7⟩ := hcc
                rw [← hlv] at w5
                have hB1 := hB (mc := zc h'' - zc h) (ms := zt h'' - zt h) (rm := zrm d' (zc h'' - zc h) (zt h'' - zt h)) rfl rfl rfl rfl (hts _ (zws_in w1 g1)) (hts _ (zws_in w4 g4)) (one w5)
                rw [w7] at hB1
                exact va_runI (b := B + a) (As := vt.map (zcv B sp)) (rest := rest.map (zcv B sp)) (g := F0 m pc lA (st.map (zcv B sp))) (n := vt.length) hFix hMet ⟨hB1, w6, hts _ (zws_in w2 g2)⟩
                  ⟨zPc_blind, hBody'⟩ rfl (by simp) hl.1 hstk hroom hd ⟨by omega, by omega⟩
              · simp only [zmthC, Bool.and_eq_true, decide_eq_true_eq, List.any_eq_true] at hcc
                obtain ⟨⟨⟨⟨⟨⟨⟨⟨q, hqm, ⟨e1, e2⟩, e3⟩, w2⟩, g2⟩, w4⟩, g4⟩, w5⟩, w6⟩, w7⟩ := hcc
                have hnw := va_Nw.use (A := args) rfl (hC.2.1 q hqm)
                rw [e1, e2, e3] at hnw
                rw [← hlv] at w5
                have hN1 := hN (mc := zc h'' - zc h) (ms := zt h'' - zt h) (rm := zrm d' (zc h'' - zc h) (zt h'' - zt h)) rfl rfl rfl rfl hnw (hts _ (zws_in w4 g4)) (one w5)
                rw [w7] at hN1
                exact va_runIN (b := B + a) (As := vt.map (zcv B sp)) (rest := rest.map (zcv B sp)) (g := F0 m pc lA (st.map (zcv B sp))) (n := vt.length) hFix hMet ⟨hN1, w6, hts _ (zws_in w2 g2)⟩
                  ⟨zPc_blind, hBody'⟩ rfl (by simp) hl.1 hstk hroom hd ⟨by omega, by omega⟩
            · cases hc
          · cases hc
        · cases hc
      · cases hc
  · cases hc
end ZS5
end Pk2
section Pk3
/-! String.length and String.charAt on the constants: contracts of the JDK's own -/
theorem dj_len0 : decode cJ0_length_8abf5 0 = .ok (.aload_n 0, 1) := by decide +kernel
theorem dj_len1 : decode cJ0_length_8abf5 1 = .ok (.getfield 9, 3) := by decide +kernel
theorem dj_len4 : decode cJ0_length_8abf5 4 = .ok (.arraylength, 1) := by decide +kernel
theorem dj_len5 : decode cJ0_length_8abf5 5 = .ok (.aload_n 0, 1) := by decide +kernel
theorem dj_len6 : decode cJ0_length_8abf5 6 = .ok (.invokevirtual 335, 3) := by decide +kernel
theorem dj_len9 : decode cJ0_length_8abf5 9 = .ok (.ishr, 1) := by decide +kernel
theorem dj_len10 : decode cJ0_length_8abf5 10 = .ok (.ireturn, 1) := by decide +kernel
theorem dj_ch0 : decode cJ0_charAt_5068e 0 = .ok (.aload_n 0, 1) := by decide +kernel
theorem dj_ch1 : decode cJ0_charAt_5068e 1 = .ok (.invokevirtual 492, 3) := by decide +kernel
theorem dj_ch4 : decode cJ0_charAt_5068e 4 = .ok (.ifCond .eq 12, 3) := by decide +kernel
theorem dj_ch7 : decode cJ0_charAt_5068e 7 = .ok (.aload_n 0, 1) := by decide +kernel
theorem dj_ch8 : decode cJ0_charAt_5068e 8 = .ok (.getfield 9, 3) := by decide +kernel
theorem dj_ch11 : decode cJ0_charAt_5068e 11 = .ok (.iload_n 1, 1) := by decide +kernel
theorem dj_ch12 : decode cJ0_charAt_5068e 12 = .ok (.invokestatic 495, 3) := by decide +kernel
theorem dj_ch15 : decode cJ0_charAt_5068e 15 = .ok (.ireturn, 1) := by decide +kernel
theorem dj_co0 : decode cJ0_coder_7d493 0 = .ok (.getstatic 38, 3) := by decide +kernel
theorem dj_co3 : decode cJ0_coder_7d493 3 = .ok (.ifCond .eq 10, 3) := by decide +kernel
theorem dj_co6 : decode cJ0_coder_7d493 6 = .ok (.aload_n 0, 1) := by decide +kernel
theorem dj_co7 : decode cJ0_coder_7d493 7 = .ok (.getfield 15, 3) := by decide +kernel
theorem dj_co10 : decode cJ0_coder_7d493 10 = .ok (.goto 4, 3) := by decide +kernel
theorem dj_co14 : decode cJ0_coder_7d493 14 = .ok (.ireturn, 1) := by decide +kernel
theorem dj_la0 : decode cJ0_isLatin1_aae02 0 = .ok (.getstatic 38, 3) := by decide +kernel
theorem dj_la3 : decode cJ0_isLatin1_aae02 3 = .ok (.ifCond .eq 14, 3) := by decide +kernel
theorem dj_la6 : decode cJ0_isLatin1_aae02 6 = .ok (.aload_n 0, 1) := by decide +kernel
theorem dj_la7 : decode cJ0_isLatin1_aae02 7 = .ok (.getfield 15, 3) := by decide +kernel
theorem dj_la10 : decode cJ0_isLatin1_aae02 10 = .ok (.ifCond .ne 7, 3) := by decide +kernel
theorem dj_la13 : decode cJ0_isLatin1_aae02 13 = .ok (.iconst 1, 1) := by decide +kernel
theorem dj_la14 : decode cJ0_isLatin1_aae02 14 = .ok (.goto 4, 3) := by decide +kernel
theorem dj_la18 : decode cJ0_isLatin1_aae02 18 = .ok (.ireturn, 1) := by decide +kernel
theorem dj_ck0 : decode cJ0_checkIndex_df160 0 = .ok (.iload_n 0, 1) := by decide +kernel
theorem dj_ck1 : decode cJ0_checkIndex_df160 1 = .ok (.iload_n 1, 1) := by decide +kernel
theorem dj_ck2 : decode cJ0_checkIndex_df160 2 = .ok (.getstatic 1053, 3) := by decide +kernel
theorem dj_ck5 : decode cJ0_checkIndex_df160 5 = .ok (.invokestatic 1059, 3) := by decide +kernel
theorem dj_ck8 : decode cJ0_checkIndex_df160 8 = .ok (.pop, 1) := by decide +kernel
theorem dj_ck9 : decode cJ0_checkIndex_df160 9 = .ok (.return_, 1) := by decide +kernel
theorem dj_c10 : decode cJ1_charAt_3b067 0 = .ok (.iload_n 1, 1) := by decide +kernel
theorem dj_c11 : decode cJ1_charAt_3b067 1 = .ok (.aload_n 0, 1) := by decide +kernel
theorem dj_c12 : decode cJ1_charAt_3b067 2 = .ok (.arraylength, 1) := by decide +kernel
theorem dj_c13 : decode cJ1_charAt_3b067 3 = .ok (.invokestatic 9, 3) := by decide +kernel
theorem dj_c16 : decode cJ1_charAt_3b067 6 = .ok (.aload_n 0, 1) := by decide +kernel
theorem dj_c17 : decode cJ1_charAt_3b067 7 = .ok (.iload_n 1, 1) := by decide +kernel
theorem dj_c18 : decode cJ1_charAt_3b067 8 = .ok (.baload, 1) := by decide +kernel
theorem dj_c19 : decode cJ1_charAt_3b067 9 = .ok (.sipush 255, 3) := by decide +kernel
theorem dj_c1_12 : decode cJ1_charAt_3b067 12 = .ok (.iand, 1) := by decide +kernel
theorem dj_c1_13 : decode cJ1_charAt_3b067 13 = .ok (.i2c, 1) := by decide +kernel
theorem dj_c1_14 : decode cJ1_charAt_3b067 14 = .ok (.ireturn, 1) := by decide +kernel
theorem dj_c30 : decode cJ3_checkIndex_8e157 0 = .ok (.iload_n 0, 1) := by decide +kernel
theorem dj_c31 : decode cJ3_checkIndex_8e157 1 = .ok (.ifCond .lt 8, 3) := by decide +kernel
theorem dj_c34 : decode cJ3_checkIndex_8e157 4 = .ok (.iload_n 0, 1) := by decide +kernel
theorem dj_c35 : decode cJ3_checkIndex_8e157 5 = .ok (.iload_n 1, 1) := by decide +kernel
theorem dj_c36 : decode cJ3_checkIndex_8e157 6 = .ok (.if_icmp .lt 10, 3) := by decide +kernel
theorem dj_c3_16 : decode cJ3_checkIndex_8e157 16 = .ok (.iload_n 0, 1) := by decide +kernel
theorem dj_c3_17 : decode cJ3_checkIndex_8e157 17 = .ok (.ireturn, 1) := by decide +kernel
def zrm0 (fr : Nat) : Room := { frames := fr, cells := 0, slots := 0, locals := 60 * fr }
def zPs (B : Nat) (sp : Nat → Nat) (H0 : Heap) (vs : List Value) : Array Value → State → Prop := va_Pc vs (fun U => zSg B sp U U.heap ∧ U.heap = H0)
def zQs (H0 : Heap) (x : Int32) : Array Value → State → Outcome → State → Prop := va_Qi (S := Unit) (fun r _ => r = x) (fun _ t => t.heap = H0) (fun _ => False)
def zQn (H0 : Heap) : Array Value → State → Outcome → State → Prop := va_Qv (S := Unit) (fun _ => True) (fun _ t => t.heap = H0) (fun _ => False)
theorem zPs_blind {B : Nat} {sp : Nat → Nat} {H0 : Heap} {vs : List Value} : FrameBlind (zPs B sp H0 vs) := by
  intro a U g mk q
  obtain ⟨q0, q1, q2⟩ := q
  exact ⟨q0, zSg.moved (u := U) (U := U.calling g mk a) (Vm.Alike.refl U.vm) q1, q2⟩
theorem zsc_all : zscT.all (fun q => decide (1000000 ≤ q.1) && (decide (q.2.length < 100) && q.2.all (fun b => decide ((b &&& 255) = b) && (decide (narrow .char (.int b) = .int b) && decide ((b.toUInt32 % 65536).toInt32 = b))))) = true := by decide +kernel
theorem zsc_get {a : Nat} {bs : List Int32} (h : zsc a = some bs) : 1000000 ≤ a ∧ bs.length < 100 ∧ ∀ b ∈ bs, (b &&& 255) = b ∧ narrow .char (.int b) = .int b ∧ (b.toUInt32 % 65536).toInt32 = b := by
  have := List.all_eq_true.mp zsc_all _ (zlook_mem h)
  simp only [Bool.and_eq_true, decide_eq_true_eq, List.all_eq_true] at this
  exact ⟨this.1, this.2.1, fun b hb => this.2.2 b hb⟩
theorem va_S.wk {A A' : Nat → Prop} {H0 H : Heap} {locs : List Loc} (h : va_S A H0 H locs) (hA : ∀ q, A q → A' q) : va_S A' H0 H locs := ⟨h.1, fun q h1 h2 => h.2.1 q h1 (fun z => h2 (hA q z)), fun l hl => hA _ (h.2.2 l hl)⟩
section ZSTR
variable {p : Program} {l : Launch} {e : Env} {R : Room} {s : State} {m : MethodId} {args : Array Value} {below : List Frame} {meth : Method} {c : Code} {H : Heap} {locs : List Loc} {cells slots : Nat} {Q : State → Prop}
variable {cc : ByteArray} {nL pc : Nat} {own : String} {lA : Array Slot} {B : Nat} {sp : Nat → Nat} {cm : zM} {a k fr : Nat} {bs : List Int32} {As rest : List Value} {x : Int32} {A0 : Nat → Prop}
theorem zj_B {n : Nat} (hts : ∀ w ∈ zws, w.before args s = true) (hM : zMok cm) (hfr : fr + 1 ≤ R.frames) (hlo : 60 * fr + 60 ≤ R.locals) (w1 : (Cond.methodLink own k cm.2.2.2.2.1) ∈ zws) (w4 : Cond.initialized cm.2.2.2.2.1.cls ∈ zws) (w5 : (parseMethodDescriptor cm.2.2.2.2.1.desc).map (fun d => d.parameters.length) = some n) :
    CallB R s args own k cm.2.2.2.2.1 cm.1 cm.2.2.1 cm.2.2.2.1 (zwsM cm) (zrm0 fr) 0 0 n := by
  refine ⟨rfl, rfl, hfr, ?_, zws_pay hts hM, List.mem_cons_self, hts _ hM.1, hts _ w4, hM.2.2.2.1, fun sig hs => ?_, hts _ w1⟩
  · have := hM.2.2.2.2.1
    show 8 + (cm.2.2.1 + 11) + 60 * fr ≤ R.locals
    omega
  · rw [hs] at w5
    exact (Option.some.inj w5).symm
theorem zSg.at {U : State} (hG : zSg B sp s s.heap) (hS : va_S (zAr B) s.heap H locs) (hU : U.heap = H) (hW : s.WarmedH U.vm) : zSg B sp U U.heap :=
  zSg.moved hW.alike (hG.kept (fun a h1 h2 => by rw [hU]; exact hS.2.1 a h1 h2))
/-- a call on a constant text -/
theorem zj_V (hFix : CallFix p m c cc nL s args zws own) (hM : zMok cm) (hG : zSg B sp s s.heap) (hA : ∀ q, A0 q → zAr B q) (hS : va_S A0 s.heap H locs) (hz : zsc a = some bs)
    (hMet : Met l cm.2.2.2.2.1 (zwsM cm) (zrm0 fr) (zPs B sp H (.ref (sp a) :: As)) (zQs H x) 0 0 (fun _ => False))
    (w1 : (Cond.methodLink own k cm.2.2.2.2.1) ∈ zws) (w2 : Cond.instanceMethod cm.2.2.2.2.1 ∈ zws) (w3 : Cond.selects "java/lang/String" cm.2.2.2.2.1 cm.2.2.2.2.1 ∈ zws) (w4 : Cond.initialized cm.2.2.2.2.1.cls ∈ zws) (w5 : (parseMethodDescriptor cm.2.2.2.2.1.desc).map (fun d => d.parameters.length) = some As.length)
    (hsz : lA.size = nL) (hw : (rest.map fun v => v.category).sum ≤ 8) (hfr : fr + 1 ≤ R.frames) (hlo : 60 * fr + 60 ≤ R.locals) (hc : cells ≤ R.cells ∧ slots ≤ R.slots) (hd : decode cc pc = .ok (.invokevirtual k, 3))
    (kk : ∀ locs1, va_S A0 s.heap H locs1 → W p l e R s m args below meth c H locs1 cells slots Q (F0 m (pc + 3) lA (.int x :: rest))) :
    W p l e R s m args below meth c H locs cells slots Q (F0 m pc lA (As.reverse ++ .ref (sp a) :: rest)) := by
  have hSz := hS.wk hA
  obtain ⟨t, q1, q2, q3, q4⟩ := hG.1 a bs hz
  obtain ⟨cell, c1, c2, c3, -⟩ := q1.kept hSz.2.1
  have hr := va_runV (C := "java/lang/String") (b := sp a) (As := As) (rest := rest) (g := F0 m pc lA (As.reverse ++ .ref (sp a) :: rest)) (n := As.length) (H := H) (locs := locs) (cells := cells) (slots := slots) (e := e) (below := below) (meth := meth) hFix hMet ⟨zj_B hFix.2.2.2.2 hM hfr hlo w1 w4 w5, hFix.2.2.2.2 _ w2, hFix.2.2.2.2 _ w3⟩
    ⟨zPs_blind, ⟨cell, c1, c2, c3⟩, fun U hU hW => ⟨rfl, hG.at hSz hU hW, hU⟩⟩ rfl rfl hsz rfl (by show 2 * 0 + _ ≤ 8; omega) hd ⟨by omega, by omega⟩
  refine va_calli hr hS (fun q _ h => h.elim) (fun q h => h.elim) (fun r u t H1 locs1 ht hvm hw hB hz1 hk1 hS1 => ?_)
  have hw : r = x := hw
  have hB : t.heap = H := hB
  subst hw
  rw [hB] at ht
  subst ht
  exact kk locs1 hS1
theorem zj_S (hFix : CallFix p m c cc nL s args zws own) (hM : zMok cm) (hG : zSg B sp s s.heap) (hA : ∀ q, A0 q → zAr B q) (hS : va_S A0 s.heap H locs)
    (hMet : Met l cm.2.2.2.2.1 (zwsM cm) (zrm0 fr) (zPs B sp H As) (zQs H x) 0 0 (fun _ => False))
    (w1 : (Cond.methodLink own k cm.2.2.2.2.1) ∈ zws) (w2 : Cond.static cm.2.2.2.2.1 ∈ zws) (w4 : Cond.initialized cm.2.2.2.2.1.cls ∈ zws) (w5 : (parseMethodDescriptor cm.2.2.2.2.1.desc).map (fun d => d.parameters.length) = some As.length)
    (hsz : lA.size = nL) (hw : (rest.map fun v => v.category).sum ≤ 8) (hfr : fr + 1 ≤ R.frames) (hlo : 60 * fr + 60 ≤ R.locals) (hc : cells ≤ R.cells ∧ slots ≤ R.slots) (hd : decode cc pc = .ok (.invokestatic k, 3))
    (kk : ∀ locs1, va_S A0 s.heap H locs1 → W p l e R s m args below meth c H locs1 cells slots Q (F0 m (pc + 3) lA (.int x :: rest))) :
    W p l e R s m args below meth c H locs cells slots Q (F0 m pc lA (As.reverse ++ rest)) := by
  have hSz := hS.wk hA
  have hr := va_runS (As := As) (rest := rest) (g := F0 m pc lA (As.reverse ++ rest)) (n := As.length) (H := H) (locs := locs) (cells := cells) (slots := slots) (e := e) (below := below) (meth := meth) hFix hMet ⟨zj_B hFix.2.2.2.2 hM hfr hlo w1 w4 w5, hFix.2.2.2.2 _ w2⟩
    ⟨zPs_blind, fun U hU hW => ⟨rfl, hG.at hSz hU hW, hU⟩⟩ rfl rfl hsz rfl (by show 2 * 0 + _ ≤ 8; omega) hd ⟨by omega, by omega⟩
  refine va_calli hr hS (fun q _ h => h.elim) (fun q h => h.elim) (fun r u t H1 locs1 ht hvm hw hB hz1 hk1 hS1 => ?_)
  have hw : r = x := hw
  have hB : t.heap = H := hB
  subst hw
  rw [hB] at ht
  subst ht
  exact kk locs1 hS1
theorem zj_N (hFix : CallFix p m c cc nL s args zws own) (hM : zMok cm) (hG : zSg B sp s s.heap) (hA : ∀ q, A0 q → zAr B q) (hS : va_S A0 s.heap H locs)
    (hMet : Met l cm.2.2.2.2.1 (zwsM cm) (zrm0 fr) (zPs B sp H As) (zQn H) 0 0 (fun _ => False))
    (w1 : (Cond.methodLink own k cm.2.2.2.2.1) ∈ zws) (w2 : Cond.static cm.2.2.2.2.1 ∈ zws) (w4 : Cond.initialized cm.2.2.2.2.1.cls ∈ zws) (w5 : (parseMethodDescriptor cm.2.2.2.2.1.desc).map (fun d => d.parameters.length) = some As.length)
    (hsz : lA.size = nL) (hw : (rest.map fun v => v.category).sum ≤ 8) (hfr : fr + 1 ≤ R.frames) (hlo : 60 * fr + 60 ≤ R.locals) (hc : cells ≤ R.cells ∧ slots ≤ R.slots) (hd : decode cc pc = .ok (.invokestatic k, 3))
    (kk : ∀ locs1, va_S A0 s.heap H locs1 → W p l e R s m args below meth c H locs1 cells slots Q (F0 m (pc + 3) lA rest)) :
    W p l e R s m args below meth c H locs cells slots Q (F0 m pc lA (As.reverse ++ rest)) := by
  have hSz := hS.wk hA
  have hr := va_runS (As := As) (rest := rest) (g := F0 m pc lA (As.reverse ++ rest)) (n := As.length) (H := H) (locs := locs) (cells := cells) (slots := slots) (e := e) (below := below) (meth := meth) hFix hMet ⟨zj_B hFix.2.2.2.2 hM hfr hlo w1 w4 w5, hFix.2.2.2.2 _ w2⟩
    ⟨zPs_blind, fun U hU hW => ⟨rfl, hG.at hSz hU hW, hU⟩⟩ rfl rfl hsz rfl (by show 2 * 0 + _ ≤ 8; omega) hd ⟨by omega, by omega⟩
  refine va_callv hr hS (fun q _ h => h.elim) (fun q h => h.elim) (fun u t H1 locs1 ht hvm hw hB hz1 hk1 hS1 => ?_)
  have hB : t.heap = H := hB
  rw [hB] at ht
  subst ht
  exact kk locs1 hS1
end ZSTR
end Pk3
section Pk4
theorem zmthV {o k na : Nat} {cm : zM} (hz : zmth o k = some (0, na, cm)) : Cond.methodLink (zRn o) k cm.2.2.2.2.1 ∈ zws ∧ Cond.instanceMethod cm.2.2.2.2.1 ∈ zws ∧ Cond.selects (zRn cm.2.1) cm.2.2.2.2.1 cm.2.2.2.2.1 ∈ zws ∧ Cond.initialized cm.2.2.2.2.1.cls ∈ zws ∧ (parseMethodDescriptor cm.2.2.2.2.1.desc).map (fun d => d.parameters.length + 1) = some na ∧ zMok cm := by
  obtain ⟨pl, pi, ps, pn, hcc, hM⟩ := zmth_get hz
  simp only [zmthC, Bool.and_eq_true, decide_eq_true_eq] at hcc
  obtain ⟨⟨⟨⟨⟨⟨⟨⟨w1, g1⟩, w2⟩, g2⟩, w3⟩, g3⟩, w4⟩, g4⟩, w5⟩ := hcc
  exact ⟨zws_in w1 g1, zws_in w2 g2, zws_in w3 g3, zws_in w4 g4, w5, hM (by decide)⟩
theorem zmthS {o k na : Nat} {cm : zM} (hz : zmth o k = some (1, na, cm)) : Cond.methodLink (zRn o) k cm.2.2.2.2.1 ∈ zws ∧ Cond.static cm.2.2.2.2.1 ∈ zws ∧ Cond.initialized cm.2.2.2.2.1.cls ∈ zws ∧ (parseMethodDescriptor cm.2.2.2.2.1.desc).map (fun d => d.parameters.length) = some na ∧ zMok cm := by
  obtain ⟨pl, pi, ps, pn, hcc, hM⟩ := zmth_get hz
  simp only [zmthC, Bool.and_eq_true, decide_eq_true_eq] at hcc
  obtain ⟨⟨⟨⟨⟨⟨w1, g1⟩, w2⟩, g2⟩, w4⟩, g4⟩, w5⟩ := hcc
  exact ⟨zws_in w1 g1, zws_in w2 g2, zws_in w4 g4, w5, hM (by decide)⟩
theorem zpar1 {o : Option MethodDescriptor} {n : Nat} (h : o.map (fun d => d.parameters.length + 1) = some (n + 1)) : o.map (fun d => d.parameters.length) = some n := by
  cases o with
  | none => cases h
  | some sig => simp only [Option.map_some, Option.some.injEq] at h ⊢; omega
set_option maxRecDepth 20000 in
theorem zjF38 : Cond.fieldLink "java/lang/String" 38 "java/lang/String" "COMPACT_STRINGS" "Z" ∈ zws := by decide +kernel
set_option maxRecDepth 20000 in
theorem zjF15 : Cond.fieldLink "java/lang/String" 15 "java/lang/String" "coder" "B" ∈ zws := by decide +kernel
set_option maxRecDepth 20000 in
theorem zjF9 : Cond.fieldLink "java/lang/String" 9 "java/lang/String" "value" "[B" ∈ zws := by decide +kernel
set_option maxRecDepth 20000 in
theorem zjF1053 : Cond.fieldLink "java/lang/String" 1053 "jdk/internal/util/Preconditions" "SIOOBE_FORMATTER" "Ljava/util/function/BiFunction;" ∈ zws := by decide +kernel
section ZSTR2
variable {l : Launch} {B : Nat} {sp : Nat → Nat} {a : Nat} {bs : List Int32}
theorem zj_coder (hz : zsc a = some bs) (H0 : Heap) : Met l yJ0_coder_7d493 (zwsM mJ0_coder_7d493) (zrm0 0) (zPs B sp H0 [.ref (sp a)]) (zQs H0 0) 0 0 (fun _ => False) := by
  refine Met.ofW (cc := cJ0_coder_7d493) (maxL := 1) (ret := some .byte) zoJ0_coder_7d493.2.2.1 rfl ?_
  intro p e s m args below meth c s₁ B' hml hv
  obtain ⟨rfl, hG, rfl⟩ := hv
  have hts : ∀ w ∈ zws, w.before _ s = true := fun w hw => atoms_spec (ws := zwsM mJ0_coder_7d493) B'.pre w (List.mem_cons_of_mem _ hw)
  have hown : s.vm.findClass "java/lang/String" = some m.cls := findClass_of_methodNamed B'.named
  have hlocks := B'.notSynchronized
  have hl := lv_entry ([.ref (sp a)] : List Value) (n := 1) (Nat.le_refl _)
  rw [lg_entry_eq]
  generalize (lg_sl [Value.ref (sp a)] ++ List.replicate (1 - (lg_sl [Value.ref (sp a)]).length) Slot.unset).toArray = lA at hl ⊢
  have h0 : lA[0]? = some (.val (.ref (sp a))) := lv_at hl 0 rfl
  have hSz : va_S (zAr B) s.heap s.heap [] := va_S.rf
  have hS0 : va_S (fun _ => False) s.heap s.heap [] := va_S.rf
  obtain ⟨t, q1, q2, q3, q4⟩ := hG.1 a bs hz
  refine va_gets B'.exec B'.bytes hG.2.1 hSz hown (hts _ zjF38) (fun _ h => h) dj_co0 ?_
  refine lv_if_eq B'.exec B'.bytes dj_co3 (tgt := 13) (by decide) (fun q => absurd q (by decide)) (fun _ => ?_)
  refine lv_aload_n B'.exec B'.bytes dj_co6 rfl h0 ?_
  refine vk_getf B'.exec B'.bytes q2 hSz hown (hts _ zjF15) (fun _ h => h) dj_co7 ?_
  refine lv_goto B'.exec B'.bytes dj_co10 (tgt := 14) (by decide) ?_
  exact W.zret (v := 0) (ty := .byte) B'.exec B'.bytes B'.returns (by decide) (fun t ht hW => ⟨⟨0, (), rfl, rfl, ht⟩, hS0.F ht⟩) hS0.2.2 dj_co14
theorem zj_latin (hz : zsc a = some bs) (H0 : Heap) : Met l yJ0_isLatin1_aae02 (zwsM mJ0_isLatin1_aae02) (zrm0 0) (zPs B sp H0 [.ref (sp a)]) (zQs H0 1) 0 0 (fun _ => False) := by
  refine Met.ofW (cc := cJ0_isLatin1_aae02) (maxL := 1) (ret := some .boolean) zoJ0_isLatin1_aae02.2.2.1 rfl ?_
  intro p e s m args below meth c s₁ B' hml hv
  obtain ⟨rfl, hG, rfl⟩ := hv
  have hts : ∀ w ∈ zws, w.before _ s = true := fun w hw => atoms_spec (ws := zwsM mJ0_isLatin1_aae02) B'.pre w (List.mem_cons_of_mem _ hw)
  have hown : s.vm.findClass "java/lang/String" = some m.cls := findClass_of_methodNamed B'.named
  have hlocks := B'.notSynchronized
  have hl := lv_entry ([.ref (sp a)] : List Value) (n := 1) (Nat.le_refl _)
  rw [lg_entry_eq]
  generalize (lg_sl [Value.ref (sp a)] ++ List.replicate (1 - (lg_sl [Value.ref (sp a)]).length) Slot.unset).toArray = lA at hl ⊢
  have h0 : lA[0]? = some (.val (.ref (sp a))) := lv_at hl 0 rfl
  have hSz : va_S (zAr B) s.heap s.heap [] := va_S.rf
  have hS0 : va_S (fun _ => False) s.heap s.heap [] := va_S.rf
  obtain ⟨t, q1, q2, q3, q4⟩ := hG.1 a bs hz
  refine va_gets B'.exec B'.bytes hG.2.1 hSz hown (hts _ zjF38) (fun _ h => h) dj_la0 ?_
  refine lv_if_eq B'.exec B'.bytes dj_la3 (tgt := 17) (by decide) (fun q => absurd q (by decide)) (fun _ => ?_)
  refine lv_aload_n B'.exec B'.bytes dj_la6 rfl h0 ?_
  refine vk_getf B'.exec B'.bytes q2 hSz hown (hts _ zjF15) (fun _ h => h) dj_la7 ?_
  refine lv_if_ne B'.exec B'.bytes dj_la10 (tgt := 17) (by decide) (fun q => absurd rfl q) (fun _ => ?_)
  refine lv_iconst B'.exec B'.bytes dj_la13 rfl ?_
  refine lv_goto B'.exec B'.bytes dj_la14 (tgt := 18) (by decide) ?_
  exact W.zret (v := 1) (ty := .boolean) B'.exec B'.bytes B'.returns (by decide) (fun t ht hW => ⟨⟨1, (), rfl, rfl, ht⟩, hS0.F ht⟩) hS0.2.2 dj_la18
theorem zj_length (hz : zsc a = some bs) (H0 : Heap) : Met l yJ0_length_8abf5 (zwsM mJ0_length_8abf5) (zrm0 1) (zPs B sp H0 [.ref (sp a)]) (zQs H0 (nI bs.length)) 0 0 (fun _ => False) := by
  refine Met.ofW (cc := cJ0_length_8abf5) (maxL := 1) (ret := some .int) zoJ0_length_8abf5.2.2.1 rfl ?_
  intro p e s m args below meth c s₁ B' hml hv
  obtain ⟨rfl, hG, rfl⟩ := hv
  have hts : ∀ w ∈ zws, w.before _ s = true := fun w hw => atoms_spec (ws := zwsM mJ0_length_8abf5) B'.pre w (List.mem_cons_of_mem _ hw)
  have hown : s.vm.findClass "java/lang/String" = some m.cls := findClass_of_methodNamed B'.named
  have hlocks := B'.notSynchronized
  have hl := lv_entry ([.ref (sp a)] : List Value) (n := 1) (Nat.le_refl _)
  rw [lg_entry_eq]
  generalize (lg_sl [Value.ref (sp a)] ++ List.replicate (1 - (lg_sl [Value.ref (sp a)]).length) Slot.unset).toArray = lA at hl ⊢
  have h0 : lA[0]? = some (.val (.ref (sp a))) := lv_at hl 0 rfl
  have hSz : va_S (zAr B) s.heap s.heap [] := va_S.rf
  have hS0 : va_S (fun _ => False) s.heap s.heap [] := va_S.rf
  obtain ⟨t, q1, q2, q3, q4⟩ := hG.1 a bs hz
  obtain ⟨v1, v2, v3, v4, v5, v6⟩ := zmthV (o := 14) (k := 335) (na := 1) (cm := mJ0_coder_7d493) rfl
  refine lv_aload_n B'.exec B'.bytes dj_len0 rfl h0 ?_
  refine vk_getf B'.exec B'.bytes q3 hSz hown (hts _ zjF9) (fun _ h => h) dj_len1 ?_
  refine va_tlen B'.exec B'.bytes q4 hSz (v := nI bs.length) rfl dj_len4 ?_
  refine lv_aload_n B'.exec B'.bytes dj_len5 rfl h0 ?_
  refine zj_V (nL := 1) (own := "java/lang/String") (As := []) (rest := [.int (nI bs.length)]) (fr := 0) ⟨B'.exec, B'.bytes, hml, hown, hts⟩ v6 hG (fun _ h => h.elim) hS0 hz (zj_coder hz _) v1 v2 v3 v4 (zpar1 v5) hl.1 (Nat.le_of_ble_eq_true rfl) (by decide) (by decide) ⟨Nat.zero_le _, Nat.zero_le _⟩ dj_len6 (fun locs1 hS1 => ?_)
  refine lv_ishr B'.exec B'.bytes dj_len9 ?_
  have e0 : nI bs.length >>> ((0 : Int32) &&& 31) = nI bs.length := by
    have : ((0 : Int32) &&& 31) = 0 := by decide
    rw [this, Int32.shiftRight_zero]
  rw [e0]
  exact W.zret (v := nI bs.length) (ty := .int) B'.exec B'.bytes B'.returns rfl (fun t ht hW => ⟨⟨nI bs.length, (), rfl, rfl, ht⟩, hS1.F ht⟩) hS1.2.2 dj_len10
theorem zj_ck3 {i n : Int32} {v : Value} (hv0 : v = .null ∨ ∃ t, v = .ref t) (hi : ¬ i < 0) (hn : i < n) (H0 : Heap) : Met l yJ3_checkIndex_8e157 (zwsM mJ3_checkIndex_8e157) (zrm0 0) (zPs B sp H0 [.int i, .int n, v]) (zQs H0 i) 0 0 (fun _ => False) := by
  refine Met.ofW (cc := cJ3_checkIndex_8e157) (maxL := 3) (ret := some .int) zoJ3_checkIndex_8e157.2.2.1 rfl ?_
  intro p e s m args below meth c s₁ B' hml hv
  obtain ⟨rfl, hG, rfl⟩ := hv
  have hlocks := B'.notSynchronized
  have hl := lv_entry ([.int i, .int n, v] : List Value) (n := 3) (by rcases hv0 with rfl | ⟨t, rfl⟩ <;> exact Nat.le_refl _)
  rw [lg_entry_eq]
  generalize (lg_sl [Value.int i, .int n, v] ++ List.replicate (3 - (lg_sl [Value.int i, .int n, v]).length) Slot.unset).toArray = lA at hl ⊢
  have h0 : lA[0]? = some (.val (.int i)) := lv_at hl 0 rfl
  have h1 : lA[1]? = some (.val (.int n)) := lv_at hl 1 rfl
  have hS0 : va_S (fun _ => False) s.heap s.heap [] := va_S.rf
  refine lv_iload_n B'.exec B'.bytes dj_c30 rfl h0 ?_
  refine lv_if_lt B'.exec B'.bytes dj_c31 (tgt := 9) (by decide) (fun q => absurd q hi) (fun _ => ?_)
  refine lv_iload_n B'.exec B'.bytes dj_c34 rfl h0 ?_
  refine lv_iload_n B'.exec B'.bytes dj_c35 rfl h1 ?_
  refine lv_icmp_lt B'.exec B'.bytes dj_c36 (tgt := 16) (by decide) (fun _ => ?_) (fun q => absurd hn q)
  refine lv_iload_n B'.exec B'.bytes dj_c3_16 rfl h0 ?_
  exact W.zret (v := i) (ty := .int) B'.exec B'.bytes B'.returns rfl (fun t ht hW => ⟨⟨i, (), rfl, rfl, ht⟩, hS0.F ht⟩) hS0.2.2 dj_c3_17
theorem zj_ck {i n : Int32} (hi : ¬ i < 0) (hn : i < n) (H0 : Heap) : Met l yJ0_checkIndex_df160 (zwsM mJ0_checkIndex_df160) (zrm0 1) (zPs B sp H0 [.int i, .int n]) (zQn H0) 0 0 (fun _ => False) := by
  refine Met.ofW (cc := cJ0_checkIndex_df160) (maxL := 2) (ret := none) zoJ0_checkIndex_df160.2.2.1 rfl ?_
  intro p e s m args below meth c s₁ B' hml hv
  obtain ⟨rfl, hG, rfl⟩ := hv
  have hts : ∀ w ∈ zws, w.before _ s = true := fun w hw => atoms_spec (ws := zwsM mJ0_checkIndex_df160) B'.pre w (List.mem_cons_of_mem _ hw)
  have hown : s.vm.findClass "java/lang/String" = some m.cls := findClass_of_methodNamed B'.named
  have hlocks := B'.notSynchronized
  have hl := lv_entry ([.int i, .int n] : List Value) (n := 2) (Nat.le_refl _)
  rw [lg_entry_eq]
  generalize (lg_sl [Value.int i, .int n] ++ List.replicate (2 - (lg_sl [Value.int i, .int n]).length) Slot.unset).toArray = lA at hl ⊢
  have h0 : lA[0]? = some (.val (.int i)) := lv_at hl 0 rfl
  have h1 : lA[1]? = some (.val (.int n)) := lv_at hl 1 rfl
  have hSz : va_S (zAr B) s.heap s.heap [] := va_S.rf
  have hS0 : va_S (fun _ => False) s.heap s.heap [] := va_S.rf
  obtain ⟨v1, v2, v4, v5, v6⟩ := zmthS (o := 14) (k := 1059) (na := 3) (cm := mJ3_checkIndex_8e157) rfl
  obtain ⟨v, hv0, hZ⟩ : ∃ v : Value, (v = .null ∨ ∃ t, v = .ref t) ∧ va_Z "jdk/internal/util/Preconditions" "SIOOBE_FORMATTER" "Ljava/util/function/BiFunction;" v (zAr B) s s.heap := by
    rcases hG.2.2.1 with h | ⟨t, h⟩
    · exact ⟨_, Or.inl rfl, h⟩
    · exact ⟨_, Or.inr ⟨t, rfl⟩, h⟩
  refine lv_iload_n B'.exec B'.bytes dj_ck0 rfl h0 ?_
  refine lv_iload_n B'.exec B'.bytes dj_ck1 rfl h1 ?_
  refine va_gets B'.exec B'.bytes hZ hSz hown (hts _ zjF1053) (fun _ h => h) dj_ck2 ?_
  refine zj_S (nL := 2) (own := "java/lang/String") (As := [.int i, .int n, v]) (rest := []) (fr := 0) ⟨B'.exec, B'.bytes, hml, hown, hts⟩ v6 hG (fun _ h => h.elim) hS0 (zj_ck3 hv0 hi hn _) v1 v2 v4 v5 hl.1 (Nat.le_of_ble_eq_true rfl) (by decide) (by decide) ⟨Nat.zero_le _, Nat.zero_le _⟩ dj_ck5 (fun locs1 hS1 => ?_)
  refine lv_pop B'.exec B'.bytes dj_ck8 rfl ?_
  exact W.vret B'.exec B'.bytes B'.returns (fun t ht hW => ⟨⟨(), rfl, trivial, ht⟩, hS1.F ht⟩) hS1.2.2 dj_ck9
theorem zj_ch1 {t : Nat} {i : Int32} (hin : zin i bs.length = true) (hz : zsc a = some bs) (H0 : Heap) : Met l yJ1_charAt_3b067 (zwsM mJ1_charAt_3b067) (zrm0 2) (va_Pc [.ref t, .int i] (fun U => (zSg B sp U U.heap ∧ va_T .byte t bs.length (fun j => .int (bs.getD j 0)) (zAr B) U U.heap) ∧ U.heap = H0)) (zQs H0 (bs.getD i.toNatClampNeg 0)) 0 0 (fun _ => False) := by
  refine Met.ofW (cc := cJ1_charAt_3b067) (maxL := 2) (ret := some .char) zoJ1_charAt_3b067.2.2.1 rfl ?_
  intro p e s m args below meth c s₁ B' hml hv
  obtain ⟨rfl, ⟨hG, hT⟩, rfl⟩ := hv
  have hts : ∀ w ∈ zws, w.before _ s = true := fun w hw => atoms_spec (ws := zwsM mJ1_charAt_3b067) B'.pre w (List.mem_cons_of_mem _ hw)
  have hown : s.vm.findClass RJ1 = some m.cls := findClass_of_methodNamed B'.named
  have hlocks := B'.notSynchronized
  have hl := lv_entry ([.ref t, .int i] : List Value) (n := 2) (Nat.le_refl _)
  rw [lg_entry_eq]
  generalize (lg_sl [Value.ref t, .int i] ++ List.replicate (2 - (lg_sl [Value.ref t, .int i]).length) Slot.unset).toArray = lA at hl ⊢
  have h0 : lA[0]? = some (.val (.ref t)) := lv_at hl 0 rfl
  have h1 : lA[1]? = some (.val (.int i)) := lv_at hl 1 rfl
  have hSz : va_S (zAr B) s.heap s.heap [] := va_S.rf
  have hS0 : va_S (fun _ => False) s.heap s.heap [] := va_S.rf
  obtain ⟨v1, v2, v4, v5, v6⟩ := zmthS (o := 15) (k := 9) (na := 2) (cm := mJ0_checkIndex_df160) rfl
  obtain ⟨-, hlen, hbs⟩ := zsc_get hz
  have hvp := vp_in_iff.mp (zin_in hin)
  have hi : ¬ i < 0 := fun q => by have := Int32.lt_iff_toInt_lt.mp q; have e0 : (0 : Int32).toInt = 0 := rfl; omega
  have hn : i < nI bs.length := Int32.lt_iff_toInt_lt.mpr (by rw [nI_toInt (by omega)]; exact hvp.2)
  have ek : (i.toNatClampNeg : Int) = i.toInt := by
    show ((i.toInt.toNat : Nat) : Int) = i.toInt
    omega
  have hmem : bs.getD i.toNatClampNeg 0 ∈ bs := by
    have hk : i.toNatClampNeg < bs.length := by omega
    rw [List.getD_eq_getElem?_getD, List.getElem?_eq_getElem hk]
    exact List.getElem_mem hk
  obtain ⟨c1, c2, c3⟩ := hbs _ hmem
  refine lv_iload_n B'.exec B'.bytes dj_c10 rfl h1 ?_
  refine lv_aload_n B'.exec B'.bytes dj_c11 rfl h0 ?_
  refine va_tlen B'.exec B'.bytes hT hSz (v := nI bs.length) rfl dj_c12 ?_
  refine zj_N (nL := 2) (own := RJ1) (As := [.int i, .int (nI bs.length)]) (rest := []) (fr := 1) ⟨B'.exec, B'.bytes, hml, hown, hts⟩ v6 hG (fun _ h => h.elim) hS0 (zj_ck hi hn _) v1 v2 v4 v5 hl.1 (Nat.le_of_ble_eq_true rfl) (by decide) (by decide) ⟨Nat.zero_le _, Nat.zero_le _⟩ dj_c13 (fun locs1 hS1 => ?_)
  refine lv_aload_n B'.exec B'.bytes dj_c16 rfl h0 ?_
  refine lv_iload_n B'.exec B'.bytes dj_c17 rfl h1 ?_
  refine va_tb B'.exec B'.bytes hT (hS1.wk (fun _ h => h.elim)) (zin_in hin) rfl dj_c18 ?_
  refine lv_sipush B'.exec B'.bytes dj_c19 (v := 255) (by decide) ?_
  refine lv_iand B'.exec B'.bytes dj_c1_12 ?_
  rw [c1]
  refine lv_i2c B'.exec B'.bytes dj_c1_13 c3 ?_
  exact W.zret (v := bs.getD i.toNatClampNeg 0) (ty := .char) B'.exec B'.bytes B'.returns c2 (fun t ht hW => ⟨⟨_, (), rfl, rfl, ht⟩, hS1.F ht⟩) hS1.2.2 dj_c1_14
theorem zj_charAt {i : Int32} (hin : zin i bs.length = true) (hz : zsc a = some bs) (H0 : Heap) : Met l yJ0_charAt_5068e (zwsM mJ0_charAt_5068e) (zrm0 3) (zPs B sp H0 [.ref (sp a), .int i]) (zQs H0 (bs.getD i.toNatClampNeg 0)) 0 0 (fun _ => False) := by
  refine Met.ofW (cc := cJ0_charAt_5068e) (maxL := 2) (ret := some .char) zoJ0_charAt_5068e.2.2.1 rfl ?_
  intro p e s m args below meth c s₁ B' hml hv
  obtain ⟨rfl, hG, rfl⟩ := hv
  have hts : ∀ w ∈ zws, w.before _ s = true := fun w hw => atoms_spec (ws := zwsM mJ0_charAt_5068e) B'.pre w (List.mem_cons_of_mem _ hw)
  have hown : s.vm.findClass "java/lang/String" = some m.cls := findClass_of_methodNamed B'.named
  have hlocks := B'.notSynchronized
  have hl := lv_entry ([.ref (sp a), .int i] : List Value) (n := 2) (Nat.le_refl _)
  rw [lg_entry_eq]
  generalize (lg_sl [Value.ref (sp a), .int i] ++ List.replicate (2 - (lg_sl [Value.ref (sp a), .int i]).length) Slot.unset).toArray = lA at hl ⊢
  have h0 : lA[0]? = some (.val (.ref (sp a))) := lv_at hl 0 rfl
  have h1 : lA[1]? = some (.val (.int i)) := lv_at hl 1 rfl
  have hS0 : va_S (fun _ => False) s.heap s.heap [] := va_S.rf
  obtain ⟨t, q1, q2, q3, q4⟩ := hG.1 a bs hz
  obtain ⟨v1, v2, v3, v4, v5, v6⟩ := zmthV (o := 14) (k := 492) (na := 1) (cm := mJ0_isLatin1_aae02) rfl
  obtain ⟨u1, u2, u4, u5, u6⟩ := zmthS (o := 14) (k := 495) (na := 2) (cm := mJ1_charAt_3b067) rfl
  obtain ⟨-, hlen, hbs⟩ := zsc_get hz
  have hvp := vp_in_iff.mp (zin_in hin)
  have ek : (i.toNatClampNeg : Int) = i.toInt := by
    show ((i.toInt.toNat : Nat) : Int) = i.toInt
    omega
  have hmem : bs.getD i.toNatClampNeg 0 ∈ bs := by
    have hk : i.toNatClampNeg < bs.length := by omega
    rw [List.getD_eq_getElem?_getD, List.getElem?_eq_getElem hk]
    exact List.getElem_mem hk
  obtain ⟨c1, c2, c3⟩ := hbs _ hmem
  refine lv_aload_n B'.exec B'.bytes dj_ch0 rfl h0 ?_
  refine zj_V (nL := 2) (own := "java/lang/String") (As := []) (rest := []) (fr := 0) ⟨B'.exec, B'.bytes, hml, hown, hts⟩ v6 hG (fun _ h => h.elim) hS0 hz (zj_latin hz _) v1 v2 v3 v4 (zpar1 v5) hl.1 (Nat.le_of_ble_eq_true rfl) (by decide) (by decide) ⟨Nat.zero_le _, Nat.zero_le _⟩ dj_ch1 (fun locs1 hS1 => ?_)
  refine lv_if_eq B'.exec B'.bytes dj_ch4 (tgt := 16) (by decide) (fun q => absurd q (by decide)) (fun _ => ?_)
  refine lv_aload_n B'.exec B'.bytes dj_ch7 rfl h0 ?_
  refine vk_getf B'.exec B'.bytes q3 (hS1.wk (fun _ h => h.elim)) hown (hts _ zjF9) (fun _ h => h) dj_ch8 ?_
  refine lv_iload_n B'.exec B'.bytes dj_ch11 rfl h1 ?_
  have hSz := hS1.wk (A' := zAr B) (fun _ h => h.elim)
  have hr := va_runS (As := [.ref t, .int i]) (rest := []) (g := F0 m 12 lA ([.ref t, .int i].reverse ++ [])) (n := 2) (H := s.heap) (locs := locs1) (cells := 0) (slots := 0) (e := e) (below := below) (meth := meth) (R := (headSpec (zwsM mJ0_charAt_5068e) (zrm0 3)).room) (cc := cJ0_charAt_5068e) (nL := 2) (Ts := zws) (own := "java/lang/String") ⟨B'.exec, B'.bytes, hml, hown, hts⟩ (zj_ch1 (l := l) (B := B) (sp := sp) (t := t) hin hz s.heap) ⟨zj_B hts u6 (by decide) (by decide) u1 u4 u5, hts _ u2⟩
    ⟨(by
      intro a U g mk q
      obtain ⟨q0, ⟨q1, q2⟩, q3⟩ := q
      exact ⟨q0, ⟨zSg.moved (u := U) (U := U.calling g mk a) (Vm.Alike.refl U.vm) q1, va_T.moved (u := U) (U := U.calling g mk a) (Vm.Alike.refl U.vm) q2⟩, q3⟩), fun U hU hW => ⟨rfl, ⟨hG.at hSz hU hW, va_T.moved hW.alike (by rw [hU]; exact q4)⟩, hU⟩⟩ rfl rfl hl.1 rfl (Nat.le_of_ble_eq_true rfl) dj_ch12 ⟨Nat.zero_le _, Nat.zero_le _⟩
  refine va_calli hr hS1 (fun q _ h => h.elim) (fun q h => h.elim) (fun r u t2 H1 locs2 ht hvm hw hB hz1 hk1 hS2 => ?_)
  have hw : r = bs.getD i.toNatClampNeg 0 := hw
  have hB : t2.heap = s.heap := hB
  subst hw
  rw [hB] at ht
  subst ht
  exact W.zret (v := bs.getD i.toNatClampNeg 0) (ty := .char) B'.exec B'.bytes B'.returns c2 (fun t ht hW => ⟨⟨_, (), rfl, rfl, ht⟩, hS2.F ht⟩) hS2.2.2 dj_ch15
end ZSTR2
section ZSTR3
variable {p : Program} {l : Launch} {e : Env} {R : Room} {s : State} {m : MethodId} {args : Array Value} {below : List Frame} {meth : Method} {c : Code} {Q : State → Prop} {B : Nat} {sp : Nat → Nat} {cA : Nat → ClassId} {D : va_G} {mi : zM} {c0 s0 : Nat}
variable {pc len : Nat} {ls : zL} {st : List zV} {h : zH}
theorem zs_str {k na : Nat} {cm : zM} {g : zC} (cx : zX p s m args meth c B sp cA D mi) (hd : decode mi.1 pc = .ok (.invokevirtual k, 3)) (hz : zmth mi.2.1 k = some (0, na, cm)) (hs : zstr cm pc ls st h = some (.inl g))
    (hf : 4 ≤ R.frames) (hlo : 240 ≤ R.locals) (hr1 : zc h ≤ c0 + R.cells) (hr2 : zt h ≤ s0 + R.slots)
    (kk : zK p l e R s m args below meth c Q B sp cA D mi c0 s0 g) : zK p l e R s m args below meth c Q B sp cA D mi c0 s0 (pc, ls, st, h) := by
  intro H locs lA cells slots hR hS hl h1 h2
  dsimp only at h1 h2 hl hR
  obtain ⟨hx, hb, hml, hown, hts, hin, hC⟩ := cx
  obtain ⟨v1, v2, v3, v4, v5, v6⟩ := zmthV hz
  have hFix : CallFix p m c mi.1 mi.2.2.1 s args zws (zRn mi.2.1) := ⟨hx, hb, hml, hown, hts⟩
  have e4 : ∀ a, 1000000 ≤ a → zcv B sp (.inr (.inr (some a))) = .ref (sp a) := by
    intro a ha
    show va_rf (some (zad B sp a)) = _
    rw [zad, if_neg (by omega)]
    rfl
  unfold zstr at hs
  split at hs
  · next a st' =>
    split at hs
    · next bs hbs =>
      split at hs
      · next hq =>
        obtain ⟨rfl, hw⟩ := hq
        cases hs
        show W p l e R s m args below meth c H locs cells slots Q (F0 m pc lA (zcv B sp (.inr (.inr (some a))) :: st'.map (zcv B sp)))
        rw [e4 a (zsc_get hbs).1]
        have hn : na = 1 := by
          have q : (parseMethodDescriptor yJ0_length_8abf5.desc).map (fun d => d.parameters.length + 1) = some 1 := by decide +kernel
          exact Option.some.inj (v5.symm.trans q)
        subst hn
        exact zj_V (As := []) (fr := 1) (A0 := zAr B) hFix v6 hC.2.2.2.2.2.1 (fun _ h => h) hS hbs (zj_length hbs _) v1 v2 v3 v4 (zpar1 v5) hl.1 (by rw [zwd_cv]; exact hw) (by omega) (by omega) ⟨by omega, by omega⟩ hd (fun locs1 hS1 => kk H locs1 lA cells slots hR hS1 hl h1 h2)
      · cases hs
    · cases hs
  · next i a st' =>
    split at hs
    · next bs hbs =>
      split at hs
      · next hq =>
        obtain ⟨rfl, hw, hi⟩ := hq
        cases hs
        show W p l e R s m args below meth c H locs cells slots Q (F0 m pc lA (.int i :: zcv B sp (.inr (.inr (some a))) :: st'.map (zcv B sp)))
        rw [e4 a (zsc_get hbs).1]
        have hn : na = 2 := by
          have q : (parseMethodDescriptor yJ0_charAt_5068e.desc).map (fun d => d.parameters.length + 1) = some 2 := by decide +kernel
          exact Option.some.inj (v5.symm.trans q)
        subst hn
        exact zj_V (As := [.int i]) (fr := 3) (A0 := zAr B) hFix v6 hC.2.2.2.2.2.1 (fun _ h => h) hS hbs (zj_charAt hi hbs _) v1 v2 v3 v4 (zpar1 v5) hl.1 (by rw [zwd_cv]; exact hw) (by omega) (by omega) ⟨by omega, by omega⟩ hd (fun locs1 hS1 => kk H locs1 lA cells slots hR hS1 hl h1 h2)
      · cases hs
    · cases hs
  · cases hs
end ZSTR3
end Pk4
section Pk5
/-! one step -/
section ZS6
variable {p : Program} {l : Launch} {e : Env} {R : Room} {s : State} {m : MethodId} {args : Array Value} {below : List Frame} {meth : Method} {c : Code} {Q : State → Prop} {B : Nat} {sp : Nat → Nat} {cA : Nat → ClassId} {D : va_G} {mi : zM} {c0 s0 : Nat}
variable {pc len : Nat} {ls : zL} {st : List zV} {h : zH}
theorem zs_arith {i : Instr} {g : zC} (cx : zX p s m args meth c B sp cA D mi) (hd : decode mi.1 pc = .ok (i, 1)) (hz : zarith i 1 pc ls st h = some (.inl g)) (k : zK p l e R s m args below meth c Q B sp cA D mi c0 s0 g) : zK p l e R s m args below meth c Q B sp cA D mi c0 s0 (pc, ls, st, h) := by
  unfold zarith at hz
  split at hz
  · split at hz
    · next v hv => cases hz; exact zs_bin cx hd hv k
    · split at hz
      · next v hv => cases hz; exact zs_un cx hd hv k
      · cases hz
  · split at hz
    · next v hv => cases hz; exact zs_un cx hd hv k
    · cases hz
  · split at hz
    · next v hv => cases hz; exact zs_lbin cx hd hv k
    · cases hz
  · cases hz
theorem zs_prim {k kd na : Nat} {cm : zM} {i : Instr} {g : zC} (cx : zX p s m args meth c B sp cA D mi) (hd : decode mi.1 pc = .ok (i, 3)) (hi : (i = .invokespecial k ∧ kd = 10) ∨ (i = .invokestatic k ∧ kd ≠ 10)) (hz : zmth mi.2.1 k = some (kd, na, cm)) (hp : zprim true kd pc ls st h = some (.inl g))
    (hf : 1 ≤ R.frames) (hlo : 60 ≤ R.locals) (hr1 : zc h ≤ c0 + R.cells) (hr2 : zt h ≤ s0 + R.slots)
    (kk : zK p l e R s m args below meth c Q B sp cA D mi c0 s0 g) : zK p l e R s m args below meth c Q B sp cA D mi c0 s0 (pc, ls, st, h) := by
  intro H locs lA cells slots hR hS hl h1 h2
  dsimp only at h1 h2 hl hR
  obtain ⟨hx, hb, hml, hown, hts, hin, hC⟩ := cx
  obtain ⟨pl, pi, ps, pn, hcc, -⟩ := zmth_get hz
  have hsz : c.maxLocals = lA.size := by rw [hml]; exact hl.1.symm
  unfold zprim at hp
  rw [if_pos rfl] at hp
  split at hp
  · next hk =>
    subst hk
    split at hp
    · next a st' =>
      split at hp
      · next hw =>
        cases hp
        obtain ⟨rfl, -⟩ := hi.resolve_right (fun q => q.2 rfl)
        simp only [zmthC, Bool.and_eq_true, decide_eq_true_eq] at hcc
        refine W.objInit hx hb hown (hts _ (zws_in hcc.1 hcc.2)) (hts _ zobjK.1) (hts _ zobjK.2) rfl hsz.symm (a := zad B sp a) (rest := st'.map (zcv B sp)) rfl hd hf (by show 2 * 0 + _ + 12 ≤ _; rw [zwd_cv]; omega) ?_
        exact kk H locs lA cells slots hR hS hl h1 h2
      · cases hp
    · cases hp
  · next hk10 =>
    have hi' : i = .invokestatic k := by
      rcases hi with ⟨-, q⟩ | ⟨q, -⟩
      · exact absurd q hk10
      · exact q
    subst hi'
    split at hp
    · next hk =>
      subst hk
      split at hp
      · next y x st' =>
        split at hp
        · next hw =>
          cases hp
          simp only [zmthC, Bool.and_eq_true, decide_eq_true_eq] at hcc
          exact va_mmax hx hb hsz hown (hts _ (zws_in hcc.1 hcc.2)) (hts _ zmaxK.1) (hts _ zmaxK.2.1) (hts _ zmaxK.2.2) hf (by rw [zwd_cv]; omega) (by omega) (by omega) hd (kk H locs lA cells slots hR hS hl h1 h2)
        · cases hp
      · cases hp
    · split at hp
      · next hk =>
        subst hk
        split at hp
        · next y x st' =>
          split at hp
          · next hw =>
            cases hp
            simp only [zmthC, Bool.and_eq_true, decide_eq_true_eq] at hcc
            exact va_mmin hx hb hsz hown (hts _ (zws_in hcc.1 hcc.2)) (hts _ zminK.1) (hts _ zminK.2.1) (hts _ zminK.2.2) hf (by rw [zwd_cv]; omega) (by omega) (by omega) hd (kk H locs lA cells slots hR hS hl h1 h2)
          · cases hp
        · cases hp
      · split at hp
        · next hk =>
          subst hk
          split at hp
          · next x st' =>
            split at hp
            · next hw =>
              cases hp
              simp only [zmthC, Bool.and_eq_true, decide_eq_true_eq] at hcc
              exact va_mabs hx hb hsz hown (hts _ (zws_in hcc.1 hcc.2)) (hts _ zabsK.1) (hts _ zabsK.2.1) (hts _ zabsK.2.2) hf (by rw [zwd_cv]; omega) (by omega) (by omega) hd (kk H locs lA cells slots hR hS hl h1 h2)
            · cases hp
          · cases hp
        · split at hp
          · next hk =>
            subst hk
            simp only [zmthC, Bool.and_eq_true, decide_eq_true_eq] at hcc
            unfold zcopy at hp
            split at hp
            · next n dp a spp b st' =>
              split at hp
              · next k0 n0 k1 n1 hq0 hq1 =>
                split at hp
                · next hw =>
                  cases hp
                  obtain ⟨rfl, rfl, q1, q2, q3, q4, q5, q6⟩ := hw
                  show W p l e R s m args below meth c H locs cells slots Q (F0 m pc lA (.int n :: .int dp :: zcv B sp (.inr (.inr (some a))) :: .int spp :: zcv B sp (.inr (.inr (some b))) :: st'.map (zcv B sp)))
                  rw [zcv_ref (zok_lt hR.2.1 hq0), zcv_ref (zok_lt hR.2.1 hq1)]
                  refine zp_copyi hx hb hsz hown (hts _ (zws_in hcc.1 hcc.2)) (hts _ zcpyK.1) (hts _ zcpyK.2.1) (hts _ zcpyK.2.2) hC.1 hR.1 zW_D hS b a 1 1 (zW_get hq0) (zW_get hq1) rfl rfl q1 q2 q3 q4 q5 hf (by rw [zwd_cv]; omega) hd (fun H1 locs1 hz1 hP1 hS1 => ?_)
                  refine kk H1 locs1 lA cells slots ⟨?_, hR.2.1, fun q => by rw [hz1]; exact hR.2.2 q⟩ hS1 hl h1 h2
                  show va_P D vwCl (zW B sp cA (zsRow h a (va_cpy (h.2.1 b) (h.2.1 a) spp.toNatClampNeg dp.toNatClampNeg n.toNatClampNeg))) H1
                  rw [zW_set (h' := zsRow h a (va_cpy (h.2.1 b) (h.2.1 a) spp.toNatClampNeg dp.toNatClampNeg n.toNatClampNeg)) hq1 rfl (fun b hb k n => zE_sRow hb), zE_I]
                  have e : (zsRow h a (va_cpy (h.2.1 b) (h.2.1 a) spp.toNatClampNeg dp.toNatClampNeg n.toNatClampNeg)).2.1 a = va_cpy (h.2.1 b) (h.2.1 a) spp.toNatClampNeg dp.toNatClampNeg n.toNatClampNeg := by
                    funext j
                    simp [zsRow, zrow]
                  rw [e]
                  exact hP1
                · cases hp
              · cases hp
            · cases hp
          · cases hp
theorem zcall_some {call : zM → List zV → zH → Option zR} {cm : zM} {kd na : Nat} {x : zC ⊕ zR} (hc : zcall call cm kd na pc ls st h = some x) : ∃ vs v h', call cm vs h = some (v, h') := by
  unfold zcall at hc
  split at hc
  · split at hc
    · split at hc
      · next r h' q => exact ⟨_, _, _, q⟩
      · cases hc
    · split at hc
      · split at hc
        · split at hc
          · split at hc
            · next r h' q => exact ⟨_, _, _, q⟩
            · cases hc
          · cases hc
        · cases hc
      · cases hc
  · cases hc
theorem zsim_call {call : zM → List zV → zH → Option zR} {k kd na d : Nat} {cm : zM} {i : Instr} {g : zC} (cx : zX p s m args meth c B sp cA D mi) (hd : decode mi.1 pc = .ok (i, 3)) (hi : (i = .invokevirtual k ∧ kd = 0) ∨ (i = .invokestatic k ∧ (kd = 1 ∨ kd = 3)) ∨ (i = .invokespecial k ∧ (kd = 2 ∨ kd = 4))) (hz : zmth mi.2.1 k = some (kd, na, cm)) (hs : zcall call cm kd na pc ls st h = some (.inl g))
    (hcall : ∀ cm, zMok cm → ∀ vs hh v hh', call cm vs hh = some (v, hh') → (∃ d', d = d' + 1 ∧ zMet l B sp cA D d' cm vs hh v hh') ∧ zc hh ≤ zc hh' ∧ zt hh ≤ zt hh')
    (hr1 : zc g.2.2.2 ≤ c0 + R.cells) (hr2 : zt g.2.2.2 ≤ s0 + R.slots) (hf : d + 4 ≤ R.frames) (hlo : 60 * (d + 4) ≤ R.locals)
    (kk : zK p l e R s m args below meth c Q B sp cA D mi c0 s0 g) : zK p l e R s m args below meth c Q B sp cA D mi c0 s0 (pc, ls, st, h) := by
  obtain ⟨pl, pi, ps, pn, -, hMk⟩ := zmth_get hz
  have hM := hMk (by rcases hi with ⟨-, q⟩ | ⟨-, q | q⟩ | ⟨-, q | q⟩ <;> omega)
  obtain ⟨vs, v, h', hc⟩ := zcall_some hs
  obtain ⟨⟨d', rfl, -⟩, -⟩ := hcall cm hM vs h v h' hc
  refine zs_call (d' := d') (v := v) (h' := h') cx hd hi hz call hs (fun vs v h' hc => ?_) hr1 hr2 hf hlo kk
  obtain ⟨⟨d2, q, q2⟩, q3⟩ := hcall cm hM vs h v h' hc
  obtain rfl : d' = d2 := by omega
  exact ⟨q2, q3⟩
theorem zl_len {a b n : Nat} (h : b = 0 ∨ a = b) (hb : b = n + 1) : a = n + 1 := by omega
theorem zsim_exec {scr : Option (Nat × (Nat → Int32))} {call : zM → List zV → zH → Option zR} {i : Instr} {d : Nat} {g : zC} (cx : zX p s m args meth c B sp cA D mi) (hd : decode mi.1 pc = .ok (i, len)) (hlen : zilen i = 0 ∨ len = zilen i) (hs : zexec scr call (decide (0 < d)) mi i len pc ls st h = some (.inl g))
    (hscr : ∀ L xs, scr = some (L, xs) → va_X (sp 1000000) L xs s s.heap ∧ sp 1000000 < s.heap.size ∧ sp 1000000 < B)
    (hcall : ∀ cm, zMok cm → ∀ vs hh v hh', call cm vs hh = some (v, hh') → (∃ d', d = d' + 1 ∧ zMet l B sp cA D d' cm vs hh v hh') ∧ zc hh ≤ zc hh' ∧ zt hh ≤ zt hh')
    (hled : ∀ (k na : Nat) (cm : zM), zmth mi.2.1 k = some (16, na, cm) → decode mi.1 pc = .ok (.invokestatic k, 3) → scr.isSome = true → 0 < d → zled call pc ls st h = some (.inl g) → zK p l e R s m args below meth c Q B sp cA D mi c0 s0 (pc, ls, st, h))
    (hf : d + 4 ≤ R.frames) (hlo : 60 * (d + 4) ≤ R.locals) (hr0 : zc h ≤ c0 + R.cells ∧ zt h ≤ s0 + R.slots) (hr : zc g.2.2.2 ≤ c0 + R.cells ∧ zt g.2.2.2 ≤ s0 + R.slots)
    (kk : zK p l e R s m args below meth c Q B sp cA D mi c0 s0 g) : zK p l e R s m args below meth c Q B sp cA D mi c0 s0 (pc, ls, st, h) := by
  cases i with
  | iconst n => obtain rfl := zl_len hlen rfl; cases hs; exact zs_iconst cx hd kk
  | bipush n => obtain rfl := zl_len hlen rfl; cases hs; exact zs_bipush cx hd kk
  | sipush n => obtain rfl := zl_len hlen rfl; cases hs; exact zs_sipush cx hd kk
  | lconst n => obtain rfl := zl_len hlen rfl; cases hs; exact zs_lconst cx hd kk
  | ldc k =>
    obtain rfl := zl_len hlen rfl
    have hs : zldv mi 1 k 2 pc ls st h = some (.inl g) := hs
    unfold zldv at hs
    split at hs
    · next v hv =>
      split at hs
      · next hc => cases hs; exact zs_ldv cx (Or.inl ⟨rfl, rfl⟩) hd hv ⟨fun q => (by cases q), fun q => (by omega)⟩ kk
      · cases hs
    · cases hs
  | ldc_w k =>
    obtain rfl := zl_len hlen rfl
    have hs : zldv mi 1 k 3 pc ls st h = some (.inl g) := hs
    unfold zldv at hs
    split at hs
    · next v hv =>
      split at hs
      · next hc => cases hs; exact zs_ldv cx (Or.inr (Or.inl ⟨rfl, rfl⟩)) hd hv ⟨fun q => (by cases q), fun q => (by omega)⟩ kk
      · cases hs
    · cases hs
  | ldc2_w k =>
    obtain rfl := zl_len hlen rfl
    have hs : zldv mi 2 k 3 pc ls st h = some (.inl g) := hs
    unfold zldv at hs
    split at hs
    · next v hv =>
      split at hs
      · next hc => cases hs; exact zs_ldv cx (Or.inr (Or.inr ⟨rfl, rfl⟩)) hd hv ⟨fun _ => hc, fun _ => rfl⟩ kk
      · cases hs
    · cases hs
  | iload k => obtain rfl := zl_len hlen rfl; exact zs_load cx hd (Or.inl ⟨rfl, rfl, rfl⟩) hs kk
  | iload_n k => obtain rfl := zl_len hlen rfl; exact zs_load cx hd (Or.inr (Or.inl ⟨k, rfl, rfl, rfl, rfl⟩)) hs kk
  | lload k => obtain rfl := zl_len hlen rfl; exact zs_load cx hd (Or.inr (Or.inr (Or.inl ⟨rfl, rfl, rfl⟩))) hs kk
  | lload_n k => obtain rfl := zl_len hlen rfl; exact zs_load cx hd (Or.inr (Or.inr (Or.inr (Or.inl ⟨k, rfl, rfl, rfl, rfl⟩)))) hs kk
  | aload k => obtain rfl := zl_len hlen rfl; exact zs_load cx hd (Or.inr (Or.inr (Or.inr (Or.inr (Or.inl ⟨rfl, rfl, rfl⟩))))) hs kk
  | aload_n k => obtain rfl := zl_len hlen rfl; exact zs_load cx hd (Or.inr (Or.inr (Or.inr (Or.inr (Or.inr ⟨k, rfl, rfl, rfl, rfl⟩))))) hs kk
  | istore k => obtain rfl := zl_len hlen rfl; exact zs_store cx hd (Or.inl ⟨rfl, rfl, rfl⟩) hs kk
  | istore_n k => obtain rfl := zl_len hlen rfl; exact zs_store cx hd (Or.inr (Or.inl ⟨k, rfl, rfl, rfl, rfl⟩)) hs kk
  | lstore k => obtain rfl := zl_len hlen rfl; exact zs_store cx hd (Or.inr (Or.inr (Or.inl ⟨rfl, rfl, rfl⟩))) hs kk
  | lstore_n k => obtain rfl := zl_len hlen rfl; exact zs_store cx hd (Or.inr (Or.inr (Or.inr (Or.inl ⟨k, rfl, rfl, rfl, rfl⟩)))) hs kk
  | astore k => obtain rfl := zl_len hlen rfl; exact zs_store cx hd (Or.inr (Or.inr (Or.inr (Or.inr (Or.inl ⟨rfl, rfl, rfl⟩))))) hs kk
  | astore_n k => obtain rfl := zl_len hlen rfl; exact zs_store cx hd (Or.inr (Or.inr (Or.inr (Or.inr (Or.inr ⟨k, rfl, rfl, rfl, rfl⟩))))) hs kk
  | iinc k n =>
    obtain rfl := zl_len hlen rfl
    simp only [zexec] at hs
    split at hs
    · next x hg =>
      split at hs
      · next hj => cases hs; exact zs_iinc cx hd hg hj kk
      · cases hs
    · cases hs
  | lshl =>
    obtain rfl := zl_len hlen rfl
    simp only [zexec] at hs
    split at hs
    · cases hs; exact zs_lshl cx hd kk
    · cases hs
  | ifCond cd off =>
    obtain rfl := zl_len hlen rfl
    simp only [zexec] at hs
    split at hs
    · exact zs_if cx hd hs kk
    · cases hs
  | if_icmp cd off =>
    obtain rfl := zl_len hlen rfl
    simp only [zexec] at hs
    split at hs
    · exact zs_icmp cx hd hs kk
    · cases hs
  | goto off => obtain rfl := zl_len hlen rfl; exact zs_goto cx hd hs kk
  | tableswitch df lo hi offs =>
    simp only [zexec] at hs
    split at hs
    · exact zs_switch cx hd hs kk
    · cases hs
  | getfield k =>
    obtain rfl := zl_len hlen rfl
    simp only [zexec] at hs
    split at hs
    · split at hs
      · next ci f kd n hz hq =>
        split at hs
        · next hk => subst hk; cases hs; exact zs_get cx hd hz hq kk
        · cases hs
      · cases hs
    · cases hs
  | putfield k =>
    obtain rfl := zl_len hlen rfl
    simp only [zexec] at hs
    split at hs
    · split at hs
      · next ci f kd n hz hq =>
        split at hs
        · next hk =>
          obtain ⟨rfl, hfi⟩ := hk
          split at hs
          · next h' hp => cases hs; exact zs_put cx hd hz hq hfi hp kk
          · cases hs
        · cases hs
      · cases hs
    · cases hs
  | iaload =>
    obtain rfl := zl_len hlen rfl
    simp only [zexec] at hs
    split at hs
    · split at hs
      · next v hv => cases hs; exact zs_iald cx hd hv hscr kk
      · cases hs
    · cases hs
  | baload =>
    obtain rfl := zl_len hlen rfl
    simp only [zexec] at hs
    split at hs
    · split at hs
      · next v hv => cases hs; exact zs_bald cx hd hv kk
      · cases hs
    · cases hs
  | laload =>
    obtain rfl := zl_len hlen rfl
    simp only [zexec] at hs
    split at hs
    · split at hs
      · next k n hq =>
        split at hs
        · next hk => obtain ⟨rfl, hi⟩ := hk; cases hs; exact zs_lald cx hd hq hi kk
        · cases hs
      · cases hs
    · cases hs
  | aaload =>
    obtain rfl := zl_len hlen rfl
    simp only [zexec] at hs
    split at hs
    · split at hs
      · next k n hq =>
        split at hs
        · next hk => obtain ⟨k1, k2, hi⟩ := hk; cases hs; exact zs_aald cx hd hq k1 k2 hi kk
        · cases hs
      · cases hs
    · cases hs
  | iastore =>
    obtain rfl := zl_len hlen rfl
    simp only [zexec] at hs
    split at hs
    · split at hs
      · next h' hv => cases hs; exact zs_iast cx hd hv kk
      · cases hs
    · cases hs
  | bastore =>
    obtain rfl := zl_len hlen rfl
    simp only [zexec] at hs
    split at hs
    · split at hs
      · next h' hv => cases hs; exact zs_bast cx hd hv kk
      · cases hs
    · cases hs
  | lastore =>
    obtain rfl := zl_len hlen rfl
    simp only [zexec] at hs
    split at hs
    · split at hs
      · next k n hq =>
        split at hs
        · next hk => obtain ⟨rfl, hi⟩ := hk; cases hs; exact zs_last cx hd hq hi kk
        · cases hs
      · cases hs
    · cases hs
  | aastore =>
    obtain rfl := zl_len hlen rfl
    simp only [zexec] at hs
    split at hs
    · split at hs
      · next k n kv nv hq hv =>
        split at hs
        · next hk => obtain ⟨k1, k2, hi, rfl⟩ := hk; cases hs; exact zs_aast cx hd hq hv k1 k2 hi kk
        · cases hs
      · cases hs
    · cases hs
  | arraylength =>
    obtain rfl := zl_len hlen rfl
    simp only [zexec] at hs
    split at hs
    · split at hs
      · next v hv => cases hs; exact zs_alen cx hd hv hscr kk
      · cases hs
    · cases hs
  | new k =>
    obtain rfl := zl_len hlen rfl
    simp only [zexec] at hs
    split at hs
    · next ci hz =>
      split at hs
      · next hci =>
        split at hs
        · next hk => cases hs; exact zs_new cx hd hz hci hk.1 hk.2 hr.1 hr.2 kk
        · cases hs
      · split at hs <;> cases hs
    · cases hs
  | newarray t =>
    obtain rfl := zl_len hlen rfl
    simp only [zexec] at hs
    split at hs
    · split at hs
      · next hk =>
        obtain ⟨k1, k2, k3, k4⟩ := hk
        split at hs
        · cases hs; exact zs_newa cx hd (Or.inl ⟨rfl, rfl⟩) k1 k2 k3 k4 hr.1 hr.2 kk
        · cases hs; exact zs_newa cx hd (Or.inr (Or.inl ⟨rfl, rfl⟩)) k1 k2 k3 k4 hr.1 hr.2 kk
        · cases hs; exact zs_newa cx hd (Or.inr (Or.inr ⟨rfl, rfl⟩)) k1 k2 k3 k4 hr.1 hr.2 kk
        · cases hs
      · cases hs
    · cases hs
  | anewarray k =>
    obtain rfl := zl_len hlen rfl
    simp only [zexec] at hs
    split at hs
    · split at hs
      · next hk =>
        obtain ⟨k1, k2, k3, k4⟩ := hk
        split at hs
        · next ci hz =>
          split at hs
          · next ha => cases hs; exact zs_newq cx hd hz ha.1 ha.2 k1 k2 k3 k4 hr.1 hr.2 kk
          · cases hs
        · cases hs
      · cases hs
    · cases hs
  | dup =>
    obtain rfl := zl_len hlen rfl
    simp only [zexec] at hs
    split at hs
    · split at hs
      · next hv => cases hs; exact zs_dup cx hd hv kk
      · cases hs
    · cases hs
  | dup2 =>
    obtain rfl := zl_len hlen rfl
    simp only [zexec] at hs
    split at hs
    · split at hs
      · next hv => cases hs; exact zs_dup2 cx hd hv.1 hv.2 kk
      · cases hs
    · cases hs
  | pop =>
    obtain rfl := zl_len hlen rfl
    simp only [zexec] at hs
    split at hs
    · split at hs
      · next hv => cases hs; exact zs_pop cx hd hv kk
      · cases hs
    · cases hs
  | pop2 =>
    obtain rfl := zl_len hlen rfl
    simp only [zexec] at hs
    split at hs
    · split at hs
      · next hv => cases hs; exact zs_pop2 cx hd hv kk
      · cases hs
    · cases hs
  | invokevirtual k =>
    obtain rfl := zl_len hlen rfl
    simp only [zexec] at hs
    split at hs
    · next kd na cm hz =>
      split at hs
      · next hk =>
        subst hk
        split at hs
        · exact zs_str cx hd hz hs (by omega) (by omega) hr0.1 hr0.2 kk
        · exact zsim_call cx hd (Or.inl ⟨rfl, rfl⟩) hz hs hcall hr.1 hr.2 hf hlo kk
      · cases hs
    · cases hs
  | getstatic k =>
    obtain rfl := zl_len hlen rfl
    simp only [zexec] at hs
    split at hs
    · next hk => obtain ⟨ho, rfl⟩ := hk; cases hs; exact zs_getst cx hd ho kk
    · cases hs
  | invokestatic k =>
    obtain rfl := zl_len hlen rfl
    simp only [zexec] at hs
    split at hs
    · next kd na cm hz =>
      split at hs
      · next hk => exact zsim_call cx hd (Or.inr (Or.inl ⟨rfl, hk⟩)) hz hs hcall hr.1 hr.2 hf hlo kk
      · split at hs
        · next hk =>
          subst hk
          split at hs
          · next hq => exact hled k na cm hz hd hq.1 (of_decide_eq_true hq.2) hs
          · cases hs
        · split at hs
          · cases hs
          · next hk10 =>
            cases hdp : decide (0 < d) with
            | true =>
              rw [hdp] at hs
              have hd0 : 0 < d := of_decide_eq_true hdp
              exact zs_prim cx hd (Or.inr ⟨rfl, hk10⟩) hz hs (by omega) (by omega) hr0.1 hr0.2 kk
            | false =>
              rw [hdp] at hs
              unfold zprim at hs
              rw [if_neg (by decide)] at hs
              cases hs
    · cases hs
  | invokespecial k =>
    obtain rfl := zl_len hlen rfl
    simp only [zexec] at hs
    split at hs
    · next kd na cm hz =>
      split at hs
      · next hk => exact zsim_call cx hd (Or.inr (Or.inr ⟨rfl, hk⟩)) hz hs hcall hr.1 hr.2 hf hlo kk
      · split at hs
        · next hk10 =>
          subst hk10
          cases hdp : decide (0 < d) with
          | true =>
            rw [hdp] at hs
            have hd0 : 0 < d := of_decide_eq_true hdp
            exact zs_prim cx hd (Or.inl ⟨rfl, rfl⟩) hz hs (by omega) (by omega) hr0.1 hr0.2 kk
          | false =>
            rw [hdp] at hs
            unfold zprim at hs
            rw [if_neg (by decide)] at hs
            cases hs
        · cases hs
    · cases hs
  | ireturn =>
    simp only [zexec] at hs
    split at hs
    · split at hs
      · split at hs <;> cases hs
      · cases hs
    · cases hs
  | lreturn =>
    simp only [zexec] at hs
    split at hs
    · split at hs <;> cases hs
    · cases hs
  | return_ =>
    simp only [zexec] at hs
    split at hs
    · split at hs <;> cases hs
    · cases hs
  | _ => obtain rfl := zl_len hlen rfl; exact zs_arith cx hd hs kk
end ZS6
end Pk5
section Pk6
/-! runs -/
def zhp (x : zC ⊕ zR) : zH := match x with
  | .inl g => g.2.2.2
  | .inr r => r.2
section ZM
variable {pc len : Nat} {ls : zL} {st : List zV} {h : zH} {x : zC ⊕ zR}
def zle (h h' : zH) : Prop := zc h ≤ zc h' ∧ zt h ≤ zt h'
theorem zle.rf : zle h h := ⟨Nat.le_refl _, Nat.le_refl _⟩
theorem zle.tr {a b c : zH} (h1 : zle a b) (h2 : zle b c) : zle a c := ⟨Nat.le_trans h1.1 h2.1, Nat.le_trans h1.2 h2.2⟩
theorem zle.of {a b : zH} (h1 : b.1 = a.1) (h2 : b.2.2.2.2 = a.2.2.2.2) : zle a b := by
  unfold zle zc zt
  rw [h1, h2]
  exact ⟨Nat.le_refl _, Nat.le_refl _⟩
theorem zle_new {k n : Nat} : zle h (znew h k n) := ⟨by rw [zc_new]; omega, by rw [zt_new]; omega⟩
theorem zle_thr : zle h (zthr h) := by
  refine ⟨?_, ?_⟩
  · show h.1.1 + h.2.2.2.2 ≤ h.1.1 + (h.2.2.2.2 + 1)
    omega
  · show h.1.2.2 + 6 * h.2.2.2.2 ≤ h.1.2.2 + 6 * (h.2.2.2.2 + 1)
    omega
theorem zldv_h {m : zM} {ca k : Nat} (hz : zldv m ca k len pc ls st h = some x) : zle h (zhp x) := by
  unfold zldv at hz
  split at hz
  · split at hz
    · cases hz; exact zle.rf
    · cases hz
  · cases hz
theorem zload_h {so k : Nat} (hz : zload so k len pc ls st h = some x) : zle h (zhp x) := by
  unfold zload at hz
  split at hz
  · split at hz
    · cases hz; exact zle.rf
    · cases hz
  · split at hz
    · cases hz; exact zle.rf
    · cases hz
  · split at hz
    · cases hz; exact zle.rf
    · cases hz
  · cases hz
theorem zstore_h {m : zM} {so k : Nat} (hz : zstore m so k len pc ls st h = some x) : zle h (zhp x) := by
  unfold zstore at hz
  split at hz
  · split at hz
    · cases hz; exact zle.rf
    · cases hz
  · split at hz
    · cases hz; exact zle.rf
    · cases hz
  · split at hz
    · cases hz; exact zle.rf
    · cases hz
  · cases hz
theorem zarith_h {i : Instr} (hz : zarith i len pc ls st h = some x) : zle h (zhp x) := by
  unfold zarith at hz
  split at hz
  · split at hz
    · cases hz; exact zle.rf
    · split at hz
      · cases hz; exact zle.rf
      · cases hz
  · split at hz
    · cases hz; exact zle.rf
    · cases hz
  · split at hz
    · cases hz; exact zle.rf
    · cases hz
  · cases hz
theorem zjump_h {off : Int} (hz : zjump pc off ls st h = some x) : zle h (zhp x) := by
  unfold zjump at hz
  split at hz
  · cases hz; exact zle.rf
  · cases hz
theorem zbr_h {b : Bool} {off : Int} (hz : zbr b pc len off ls st h = some x) : zle h (zhp x) := by
  unfold zbr at hz
  split at hz
  · split at hz
    · cases hz; exact zle.rf
    · cases hz; exact zle.rf
  · cases hz
theorem zput_h {ci a f : Nat} {v : zV} {h' : zH} (hz : zput h ci a f v = some h') : zle h h' := by
  unfold zput at hz
  split at hz
  · split at hz
    · cases hz; exact zle.of rfl rfl
    · cases hz
  · split at hz
    · cases hz; exact zle.of rfl rfl
    · cases hz
  · cases hz
theorem zst_h {kd a : Nat} {i v : Int32} {h' : zH} (hz : zst h kd a i v = some h') : zle h h' := by
  unfold zst at hz
  split at hz
  · split at hz
    · split at hz
      · cases hz; exact zle.of rfl rfl
      · cases hz
    · cases hz
  · cases hz
theorem zprim_h {deep : Bool} {kd : Nat} (hz : zprim deep kd pc ls st h = some x) : zle h (zhp x) := by
  unfold zprim at hz
  split at hz
  · split at hz
    · split at hz
      · split at hz
        · cases hz; exact zle.rf
        · cases hz
      · cases hz
    · split at hz
      · split at hz
        · split at hz
          · cases hz; exact zle.rf
          · cases hz
        · cases hz
      · split at hz
        · split at hz
          · split at hz
            · cases hz; exact zle.rf
            · cases hz
          · cases hz
        · split at hz
          · split at hz
            · split at hz
              · cases hz; exact zle.rf
              · cases hz
            · cases hz
          · split at hz
            · unfold zcopy at hz
              split at hz
              · split at hz
                · split at hz
                  · cases hz; exact zle.of rfl rfl
                  · cases hz
                · cases hz
              · cases hz
            · cases hz
  · cases hz
theorem zstr_h {cm : zM} (hz : zstr cm pc ls st h = some x) : zle h (zhp x) := by
  unfold zstr at hz
  split at hz
  · split at hz
    · split at hz
      · cases hz; exact zle.rf
      · cases hz
    · cases hz
  · split at hz
    · split at hz
      · cases hz; exact zle.rf
      · cases hz
    · cases hz
  · cases hz
variable {call : zM → List zV → zH → Option zR}
theorem zcall_h {cm : zM} {kd na : Nat} (hcall : ∀ cm vs hh v hh', call cm vs hh = some (v, hh') → zle hh hh') (hz : zcall call cm kd na pc ls st h = some x) : zle h (zhp x) := by
  unfold zcall at hz
  split at hz
  · split at hz
    · split at hz
      · next r h' q => cases hz; exact hcall _ _ _ _ _ q
      · cases hz
    · split at hz
      · split at hz
        · split at hz
          · split at hz
            · next r h' q => cases hz; exact hcall _ _ _ _ _ q
            · cases hz
          · cases hz
        · cases hz
      · cases hz
  · cases hz
theorem zled_h (hcall : ∀ cm vs hh v hh', call cm vs hh = some (v, hh') → zle hh hh') (hz : zled call pc ls st h = some x) : zle h (zhp x) := by
  unfold zled at hz
  split at hz
  · split at hz
    · split at hz
      · next b h' q => cases hz; exact (hcall _ _ _ _ _ q).tr (zle.of rfl rfl)
      · next b h' q => cases hz; exact hcall _ _ _ _ _ q
      · cases hz
    · cases hz
  · cases hz
theorem zexec_h {scr : Option (Nat × (Nat → Int32))} {deep : Bool} {m : zM} {i : Instr} (hcall : ∀ cm vs hh v hh', call cm vs hh = some (v, hh') → zle hh hh') (hs : zexec scr call deep m i len pc ls st h = some x) : zle h (zhp x) := by
  cases i with
  | iconst n => cases hs; exact zle.rf
  | bipush n => cases hs; exact zle.rf
  | sipush n => cases hs; exact zle.rf
  | lconst n => cases hs; exact zle.rf
  | ldc k => exact zldv_h hs
  | ldc_w k => exact zldv_h hs
  | ldc2_w k => exact zldv_h hs
  | iload k => exact zload_h hs
  | iload_n k => exact zload_h hs
  | lload k => exact zload_h hs
  | lload_n k => exact zload_h hs
  | aload k => exact zload_h hs
  | aload_n k => exact zload_h hs
  | istore k => exact zstore_h hs
  | istore_n k => exact zstore_h hs
  | lstore k => exact zstore_h hs
  | lstore_n k => exact zstore_h hs
  | astore k => exact zstore_h hs
  | astore_n k => exact zstore_h hs
  | iinc k n =>
    simp only [zexec] at hs
    split at hs
    · split at hs
      · cases hs; exact zle.rf
      · cases hs
    · cases hs
  | lshl =>
    simp only [zexec] at hs
    split at hs
    · cases hs; exact zle.rf
    · cases hs
  | ifCond cd off =>
    simp only [zexec] at hs
    split at hs
    · exact zbr_h hs
    · cases hs
  | if_icmp cd off =>
    simp only [zexec] at hs
    split at hs
    · exact zbr_h hs
    · cases hs
  | goto off => exact zjump_h hs
  | tableswitch df lo hi offs =>
    simp only [zexec] at hs
    split at hs
    · split at hs
      · exact zjump_h hs
      · split at hs
        · exact zjump_h hs
        · cases hs
    · cases hs
  | getfield k =>
    simp only [zexec] at hs
    split at hs
    · split at hs
      · split at hs
        · cases hs; exact zle.rf
        · cases hs
      · cases hs
    · cases hs
  | putfield k =>
    simp only [zexec] at hs
    split at hs
    · split at hs
      · split at hs
        · split at hs
          · next h' hp => cases hs; exact zput_h hp
          · cases hs
        · cases hs
      · cases hs
    · cases hs
  | iaload =>
    simp only [zexec] at hs
    split at hs
    · split at hs
      · cases hs; exact zle.rf
      · cases hs
    · cases hs
  | baload =>
    simp only [zexec] at hs
    split at hs
    · split at hs
      · cases hs; exact zle.rf
      · cases hs
    · cases hs
  | laload =>
    simp only [zexec] at hs
    split at hs
    · split at hs
      · split at hs
        · cases hs; exact zle.rf
        · cases hs
      · cases hs
    · cases hs
  | aaload =>
    simp only [zexec] at hs
    split at hs
    · split at hs
      · split at hs
        · cases hs; exact zle.rf
        · cases hs
      · cases hs
    · cases hs
  | iastore =>
    simp only [zexec] at hs
    split at hs
    · split at hs
      · next h' hv => cases hs; exact zst_h hv
      · cases hs
    · cases hs
  | bastore =>
    simp only [zexec] at hs
    split at hs
    · split at hs
      · next h' hv => cases hs; exact zst_h hv
      · cases hs
    · cases hs
  | lastore =>
    simp only [zexec] at hs
    split at hs
    · split at hs
      · split at hs
        · cases hs; exact zle.of rfl rfl
        · cases hs
      · cases hs
    · cases hs
  | aastore =>
    simp only [zexec] at hs
    split at hs
    · split at hs
      · split at hs
        · cases hs; exact zle.of rfl rfl
        · cases hs
      · cases hs
    · cases hs
  | arraylength =>
    simp only [zexec] at hs
    split at hs
    · split at hs
      · cases hs; exact zle.rf
      · cases hs
    · cases hs
  | new k =>
    simp only [zexec] at hs
    split at hs
    · split at hs
      · split at hs
        · cases hs; exact zle_new
        · cases hs
      · split at hs
        · cases hs; exact zle_thr
        · cases hs
    · cases hs
  | newarray t =>
    simp only [zexec] at hs
    split at hs
    · split at hs
      · split at hs
        · cases hs; exact zle_new
        · cases hs; exact zle_new
        · cases hs; exact zle_new
        · cases hs
      · cases hs
    · cases hs
  | anewarray k =>
    simp only [zexec] at hs
    split at hs
    · split at hs
      · split at hs
        · split at hs
          · cases hs; exact zle_new
          · cases hs
        · cases hs
      · cases hs
    · cases hs
  | dup =>
    simp only [zexec] at hs
    split at hs
    · split at hs
      · cases hs; exact zle.rf
      · cases hs
    · cases hs
  | dup2 =>
    simp only [zexec] at hs
    split at hs
    · split at hs
      · cases hs; exact zle.rf
      · cases hs
    · cases hs
  | pop =>
    simp only [zexec] at hs
    split at hs
    · split at hs
      · cases hs; exact zle.rf
      · cases hs
    · cases hs
  | pop2 =>
    simp only [zexec] at hs
    split at hs
    · split at hs
      · cases hs; exact zle.rf
      · cases hs
    · cases hs
  | invokevirtual k =>
    simp only [zexec] at hs
    split at hs
    · split at hs
      · split at hs
        · exact zstr_h hs
        · exact zcall_h hcall hs
      · cases hs
    · cases hs
  | getstatic k =>
    simp only [zexec] at hs
    split at hs
    · cases hs; exact zle.rf
    · cases hs
  | invokestatic k =>
    simp only [zexec] at hs
    split at hs
    · split at hs
      · exact zcall_h hcall hs
      · split at hs
        · split at hs
          · exact zled_h hcall hs
          · cases hs
        · split at hs
          · cases hs
          · exact zprim_h hs
    · cases hs
  | invokespecial k =>
    simp only [zexec] at hs
    split at hs
    · split at hs
      · exact zcall_h hcall hs
      · split at hs
        · exact zprim_h hs
        · cases hs
    · cases hs
  | ireturn =>
    simp only [zexec] at hs
    split at hs
    · split at hs
      · split at hs
        · cases hs; exact zle.rf
        · cases hs
      · cases hs
    · cases hs
  | lreturn =>
    simp only [zexec] at hs
    split at hs
    · split at hs
      · cases hs; exact zle.rf
      · cases hs
    · cases hs
  | return_ =>
    simp only [zexec] at hs
    split at hs
    · split at hs
      · cases hs; exact zle.rf
      · cases hs
    · cases hs
  | _ => simp only [zexec] at hs; exact zarith_h hs
end ZM
theorem zrun_h : ∀ (n : Nat) (scr : Option (Nat × (Nat → Int32))) (d : Nat) (m : zM) (g : zC) (v : Option zV) (h' : zH), zrun n scr d m g = some (v, h') → zle g.2.2.2 h' := by
  intro n
  induction n with
  | zero => intro scr d m g v h' hz; cases hz
  | succ n ih =>
    intro scr d m g v h' hz
    unfold zrun at hz
    have hcall : ∀ cm vs hh v hh', (fun (k : zM) (vs : List zV) (h : zH) => (match d with
      | 0 => none
      | d' + 1 => if zwd vs ≤ k.2.2.1 then zrun n none d' k (0, zargs 0 vs, [], h) else none : Option zR)) cm vs hh = some (v, hh') → zle hh hh' := by
      intro cm vs hh v hh' hq
      dsimp only at hq
      split at hq
      · cases hq
      · split at hq
        · exact ih _ _ _ _ _ _ hq
        · cases hq
    split at hz
    · next g' hs =>
      unfold zstep at hs
      split at hs
      · split at hs
        · exact (zexec_h hcall hs).tr (ih _ _ _ _ _ _ hz)
        · cases hs
      · cases hs
    · next r hs =>
      cases hz
      unfold zstep at hs
      split at hs
      · split at hs
        · exact zexec_h hcall hs
        · cases hs
      · cases hs
    · cases hz
section ZI
variable {pc len : Nat} {ls : zL} {st : List zV} {h : zH} {x : zC ⊕ zR}
theorem zldv_i {m : zM} {ca k : Nat} (hz : zldv m ca k len pc ls st h = some x) : ∃ g, x = .inl g := by
  unfold zldv at hz
  split at hz
  · split at hz
    · cases hz; exact ⟨_, rfl⟩
    · cases hz
  · cases hz
theorem zload_i {so k : Nat} (hz : zload so k len pc ls st h = some x) : ∃ g, x = .inl g := by
  unfold zload at hz
  split at hz
  · split at hz
    · cases hz; exact ⟨_, rfl⟩
    · cases hz
  · split at hz
    · cases hz; exact ⟨_, rfl⟩
    · cases hz
  · split at hz
    · cases hz; exact ⟨_, rfl⟩
    · cases hz
  · cases hz
theorem zstore_i {m : zM} {so k : Nat} (hz : zstore m so k len pc ls st h = some x) : ∃ g, x = .inl g := by
  unfold zstore at hz
  split at hz
  · split at hz
    · cases hz; exact ⟨_, rfl⟩
    · cases hz
  · split at hz
    · cases hz; exact ⟨_, rfl⟩
    · cases hz
  · split at hz
    · cases hz; exact ⟨_, rfl⟩
    · cases hz
  · cases hz
theorem zarith_i {i : Instr} (hz : zarith i len pc ls st h = some x) : ∃ g, x = .inl g := by
  unfold zarith at hz
  split at hz
  · split at hz
    · cases hz; exact ⟨_, rfl⟩
    · split at hz
      · cases hz; exact ⟨_, rfl⟩
      · cases hz
  · split at hz
    · cases hz; exact ⟨_, rfl⟩
    · cases hz
  · split at hz
    · cases hz; exact ⟨_, rfl⟩
    · cases hz
  · cases hz
theorem zjump_i {off : Int} (hz : zjump pc off ls st h = some x) : ∃ g, x = .inl g := by
  unfold zjump at hz
  split at hz
  · cases hz; exact ⟨_, rfl⟩
  · cases hz
theorem zbr_i {b : Bool} {off : Int} (hz : zbr b pc len off ls st h = some x) : ∃ g, x = .inl g := by
  unfold zbr at hz
  split at hz
  · split at hz
    · cases hz; exact ⟨_, rfl⟩
    · cases hz; exact ⟨_, rfl⟩
  · cases hz
theorem zprim_i {deep : Bool} {kd : Nat} (hz : zprim deep kd pc ls st h = some x) : ∃ g, x = .inl g := by
  unfold zprim at hz
  split at hz
  · split at hz
    · split at hz
      · split at hz
        · cases hz; exact ⟨_, rfl⟩
        · cases hz
      · cases hz
    · split at hz
      · split at hz
        · split at hz
          · cases hz; exact ⟨_, rfl⟩
          · cases hz
        · cases hz
      · split at hz
        · split at hz
          · split at hz
            · cases hz; exact ⟨_, rfl⟩
            · cases hz
          · cases hz
        · split at hz
          · split at hz
            · split at hz
              · cases hz; exact ⟨_, rfl⟩
              · cases hz
            · cases hz
          · split at hz
            · unfold zcopy at hz
              split at hz
              · split at hz
                · split at hz
                  · cases hz; exact ⟨_, rfl⟩
                  · cases hz
                · cases hz
              · cases hz
            · cases hz
  · cases hz
theorem zstr_i {cm : zM} (hz : zstr cm pc ls st h = some x) : ∃ g, x = .inl g := by
  unfold zstr at hz
  split at hz
  · split at hz
    · split at hz
      · cases hz; exact ⟨_, rfl⟩
      · cases hz
    · cases hz
  · split at hz
    · split at hz
      · cases hz; exact ⟨_, rfl⟩
      · cases hz
    · cases hz
  · cases hz
variable {call : zM → List zV → zH → Option zR}
theorem zcall_i {cm : zM} {kd na : Nat} (hz : zcall call cm kd na pc ls st h = some x) : ∃ g, x = .inl g := by
  unfold zcall at hz
  split at hz
  · split at hz
    · split at hz
      · next r h' q => cases hz; exact ⟨_, rfl⟩
      · cases hz
    · split at hz
      · split at hz
        · split at hz
          · split at hz
            · next r h' q => cases hz; exact ⟨_, rfl⟩
            · cases hz
          · cases hz
        · cases hz
      · cases hz
  · cases hz
theorem zled_i (hz : zled call pc ls st h = some x) : ∃ g, x = .inl g := by
  unfold zled at hz
  split at hz
  · split at hz
    · split at hz
      · next b h' q => cases hz; exact ⟨_, rfl⟩
      · next b h' q => cases hz; exact ⟨_, rfl⟩
      · cases hz
    · cases hz
  · cases hz
theorem zexec_i {scr : Option (Nat × (Nat → Int32))} {deep : Bool} {m : zM} {i : Instr} (hy : m.2.2.2.2.1 ≠ yX11_led) (h1 : i ≠ .ireturn) (h2 : i ≠ .lreturn) (h3 : i ≠ .return_) (hs : zexec scr call deep m i len pc ls st h = some x) : ∃ g, x = .inl g := by
  cases i with
  | iconst n => cases hs; exact ⟨_, rfl⟩
  | bipush n => cases hs; exact ⟨_, rfl⟩
  | sipush n => cases hs; exact ⟨_, rfl⟩
  | lconst n => cases hs; exact ⟨_, rfl⟩
  | ldc k => exact zldv_i hs
  | ldc_w k => exact zldv_i hs
  | ldc2_w k => exact zldv_i hs
  | iload k => exact zload_i hs
  | iload_n k => exact zload_i hs
  | lload k => exact zload_i hs
  | lload_n k => exact zload_i hs
  | aload k => exact zload_i hs
  | aload_n k => exact zload_i hs
  | istore k => exact zstore_i hs
  | istore_n k => exact zstore_i hs
  | lstore k => exact zstore_i hs
  | lstore_n k => exact zstore_i hs
  | astore k => exact zstore_i hs
  | astore_n k => exact zstore_i hs
  | iinc k n =>
    simp only [zexec] at hs
    split at hs
    · split at hs
      · cases hs; exact ⟨_, rfl⟩
      · cases hs
    · cases hs
  | lshl =>
    simp only [zexec] at hs
    split at hs
    · cases hs; exact ⟨_, rfl⟩
    · cases hs
  | ifCond cd off =>
    simp only [zexec] at hs
    split at hs
    · exact zbr_i hs
    · cases hs
  | if_icmp cd off =>
    simp only [zexec] at hs
    split at hs
    · exact zbr_i hs
    · cases hs
  | goto off => exact zjump_i hs
  | tableswitch df lo hi offs =>
    simp only [zexec] at hs
    split at hs
    · split at hs
      · exact zjump_i hs
      · split at hs
        · exact zjump_i hs
        · cases hs
    · cases hs
  | getfield k =>
    simp only [zexec] at hs
    split at hs
    · split at hs
      · split at hs
        · cases hs; exact ⟨_, rfl⟩
        · cases hs
      · cases hs
    · cases hs
  | putfield k =>
    simp only [zexec] at hs
    split at hs
    · split at hs
      · split at hs
        · split at hs
          · next h' hp => cases hs; exact ⟨_, rfl⟩
          · cases hs
        · cases hs
      · cases hs
    · cases hs
  | iaload =>
    simp only [zexec] at hs
    split at hs
    · split at hs
      · cases hs; exact ⟨_, rfl⟩
      · cases hs
    · cases hs
  | baload =>
    simp only [zexec] at hs
    split at hs
    · split at hs
      · cases hs; exact ⟨_, rfl⟩
      · cases hs
    · cases hs
  | laload =>
    simp only [zexec] at hs
    split at hs
    · split at hs
      · split at hs
        · cases hs; exact ⟨_, rfl⟩
        · cases hs
      · cases hs
    · cases hs
  | aaload =>
    simp only [zexec] at hs
    split at hs
    · split at hs
      · split at hs
        · cases hs; exact ⟨_, rfl⟩
        · cases hs
      · cases hs
    · cases hs
  | iastore =>
    simp only [zexec] at hs
    split at hs
    · split at hs
      · next h' hv => cases hs; exact ⟨_, rfl⟩
      · cases hs
    · cases hs
  | bastore =>
    simp only [zexec] at hs
    split at hs
    · split at hs
      · next h' hv => cases hs; exact ⟨_, rfl⟩
      · cases hs
    · cases hs
  | lastore =>
    simp only [zexec] at hs
    split at hs
    · split at hs
      · split at hs
        · cases hs; exact ⟨_, rfl⟩
        · cases hs
      · cases hs
    · cases hs
  | aastore =>
    simp only [zexec] at hs
    split at hs
    · split at hs
      · split at hs
        · cases hs; exact ⟨_, rfl⟩
        · cases hs
      · cases hs
    · cases hs
  | arraylength =>
    simp only [zexec] at hs
    split at hs
    · split at hs
      · cases hs; exact ⟨_, rfl⟩
      · cases hs
    · cases hs
  | new k =>
    simp only [zexec] at hs
    split at hs
    · split at hs
      · split at hs
        · cases hs; exact ⟨_, rfl⟩
        · cases hs
      · split at hs
        · next hq => exact absurd hq.2.1 hy
        · cases hs
    · cases hs
  | newarray t =>
    simp only [zexec] at hs
    split at hs
    · split at hs
      · split at hs
        · cases hs; exact ⟨_, rfl⟩
        · cases hs; exact ⟨_, rfl⟩
        · cases hs; exact ⟨_, rfl⟩
        · cases hs
      · cases hs
    · cases hs
  | anewarray k =>
    simp only [zexec] at hs
    split at hs
    · split at hs
      · split at hs
        · split at hs
          · cases hs; exact ⟨_, rfl⟩
          · cases hs
        · cases hs
      · cases hs
    · cases hs
  | dup =>
    simp only [zexec] at hs
    split at hs
    · split at hs
      · cases hs; exact ⟨_, rfl⟩
      · cases hs
    · cases hs
  | dup2 =>
    simp only [zexec] at hs
    split at hs
    · split at hs
      · cases hs; exact ⟨_, rfl⟩
      · cases hs
    · cases hs
  | pop =>
    simp only [zexec] at hs
    split at hs
    · split at hs
      · cases hs; exact ⟨_, rfl⟩
      · cases hs
    · cases hs
  | pop2 =>
    simp only [zexec] at hs
    split at hs
    · split at hs
      · cases hs; exact ⟨_, rfl⟩
      · cases hs
    · cases hs
  | invokevirtual k =>
    simp only [zexec] at hs
    split at hs
    · split at hs
      · split at hs
        · exact zstr_i hs
        · exact zcall_i hs
      · cases hs
    · cases hs
  | getstatic k =>
    simp only [zexec] at hs
    split at hs
    · cases hs; exact ⟨_, rfl⟩
    · cases hs
  | invokestatic k =>
    simp only [zexec] at hs
    split at hs
    · split at hs
      · exact zcall_i hs
      · split at hs
        · split at hs
          · exact zled_i hs
          · cases hs
        · split at hs
          · cases hs
          · exact zprim_i hs
    · cases hs
  | invokespecial k =>
    simp only [zexec] at hs
    split at hs
    · split at hs
      · exact zcall_i hs
      · split at hs
        · exact zprim_i hs
        · cases hs
    · cases hs
  | ireturn => exact absurd rfl h1
  | lreturn => exact absurd rfl h2
  | return_ => exact absurd rfl h3
  | _ => simp only [zexec] at hs; exact zarith_i hs
end ZI
end Pk6
section Pk7
/-! whole runs of a method -/
def zcf (n d : Nat) : zM → List zV → zH → Option zR := fun k vs h => match d with
  | 0 => none
  | d' + 1 => if zwd vs ≤ k.2.2.1 then zrun n none d' k (0, zargs 0 vs, [], h) else none
theorem zrun_succ (n : Nat) (scr : Option (Nat × (Nat → Int32))) (d : Nat) (m : zM) (g : zC) : zrun (n + 1) scr d m g = (match zstep scr (zcf n d) (decide (0 < d)) m g with
    | some (.inl c') => zrun n scr d m c'
    | some (.inr r) => some r
    | none => none) := rfl
def zMetAll (l : Launch) (B : Nat) (sp : Nat → Nat) (cA : Nat → ClassId) (D : va_G) (n : Nat) : Prop := ∀ (d : Nat) (cm : zM) (vs : List zV) (h : zH) (v : Option zV) (h' : zH), zMok cm → zwd vs ≤ cm.2.2.1 → zrun n none d cm (0, zargs 0 vs, [], h) = some (v, h') → zMet l B sp cA D d cm vs h v h'
section ZS8
variable {p : Program} {l : Launch} {e : Env} {R : Room} {s : State} {m : MethodId} {args : Array Value} {below : List Frame} {meth : Method} {c : Code} {Q : State → Prop} {B : Nat} {sp : Nat → Nat} {cA : Nat → ClassId} {D : va_G} {mi : zM} {c0 s0 : Nat}
theorem zcf_met {n d : Nat} (IH : zMetAll l B sp cA D n) : ∀ cm, zMok cm → ∀ vs hh v hh', zcf n d cm vs hh = some (v, hh') → (∃ d', d = d' + 1 ∧ zMet l B sp cA D d' cm vs hh v hh') ∧ zc hh ≤ zc hh' ∧ zt hh ≤ zt hh' := by
  intro cm hM vs hh v hh' hq
  unfold zcf at hq
  split at hq
  · cases hq
  · next d' =>
    split at hq
    · next hw => exact ⟨⟨d', rfl, IH d' cm vs hh v hh' hM hw hq⟩, zrun_h _ _ _ _ _ _ _ hq⟩
    · cases hq
theorem zsim_run {scr : Option (Nat × (Nat → Int32))} {d : Nat} {v : Option zV} {h' : zH} (cx : zX p s m args meth c B sp cA D mi)
    (hscr : ∀ L xs, scr = some (L, xs) → va_X (sp 1000000) L xs s s.heap ∧ sp 1000000 < s.heap.size ∧ sp 1000000 < B)
    (hf : d + 4 ≤ R.frames) (hlo : 60 * (d + 4) ≤ R.locals) (hr : zc h' ≤ c0 + R.cells ∧ zt h' ≤ s0 + R.slots) (N : Nat) (IH : ∀ k, k < N → zMetAll l B sp cA D k)
    (hled : ∀ (n k na : Nat) (cm : zM) (pc : Nat) (ls : zL) (st : List zV) (h : zH) (g : zC), n < N → zmth mi.2.1 k = some (16, na, cm) → decode mi.1 pc = .ok (.invokestatic k, 3) → scr.isSome = true → 0 < d → zled (zcf n d) pc ls st h = some (.inl g) → zc g.2.2.2 ≤ c0 + R.cells ∧ zt g.2.2.2 ≤ s0 + R.slots → zK p l e R s m args below meth c Q B sp cA D mi c0 s0 g → zK p l e R s m args below meth c Q B sp cA D mi c0 s0 (pc, ls, st, h))
    (hfin : ∀ (n : Nat) (g : zC), n < N → zstep scr (zcf n d) (decide (0 < d)) mi g = some (.inr (v, h')) → zK p l e R s m args below meth c Q B sp cA D mi c0 s0 g) :
    ∀ (n : Nat) (g : zC), n ≤ N → zrun n scr d mi g = some (v, h') → zK p l e R s m args below meth c Q B sp cA D mi c0 s0 g := by
  intro n
  induction n with
  | zero => intro g _ hz; cases hz
  | succ n ih =>
    intro g hn hz
    have hz0 := hz
    rw [zrun_succ] at hz
    split at hz
    · next g' hs =>
      have hk := ih g' (by omega) hz
      have hle := zrun_h _ _ _ _ _ _ _ hz
      have hle0 := zrun_h _ _ _ _ _ _ _ hz0
      have hr' : zc g'.2.2.2 ≤ c0 + R.cells ∧ zt g'.2.2.2 ≤ s0 + R.slots := ⟨Nat.le_trans hle.1 hr.1, Nat.le_trans hle.2 hr.2⟩
      have hr0 : zc g.2.2.2 ≤ c0 + R.cells ∧ zt g.2.2.2 ≤ s0 + R.slots := ⟨Nat.le_trans hle0.1 hr.1, Nat.le_trans hle0.2 hr.2⟩
      unfold zstep at hs
      split at hs
      · next i len hd =>
        split at hs
        · next hl =>
          obtain ⟨pc, ls, st, h⟩ := g
          exact zsim_exec cx hd hl hs hscr (zcf_met (IH n (by omega))) (fun k na cm h1 h2 h3 h4 h5 => hled n k na cm pc ls st h g' (by omega) h1 h2 h3 h4 h5 hr' hk) hf hlo hr0 hr' hk
        · cases hs
      · cases hs
    · next r hs =>
      cases hz
      exact hfin n g (by omega) hs
    · cases hz
/-- the last step of a method that isn't led -/
theorem zs_fin {scr : Option (Nat × (Nat → Int32))} {call : zM → List zV → zH → Option zR} {deep : Bool} {g : zC} {v : Option zV} {h' : zH} (hs : zstep scr call deep mi g = some (.inr (v, h'))) (hy : mi.2.2.2.2.1 ≠ yX11_led) :
    g.2.2.2 = h' ∧ ((∃ (x : Int32) (ty : FieldType), v = some (.inl x) ∧ g.2.2.1 = [.inl x] ∧ mi.2.2.2.1 = some ty ∧ narrow ty (.int x) = .int x ∧ decode mi.1 g.1 = .ok (.ireturn, 1)) ∨ (∃ x : Int64, v = some (.inr (.inl x)) ∧ g.2.2.1 = [.inr (.inl x)] ∧ mi.2.2.2.1 = some .long ∧ decode mi.1 g.1 = .ok (.lreturn, 1)) ∨ (v = none ∧ g.2.2.1 = [] ∧ mi.2.2.2.1 = none ∧ decode mi.1 g.1 = .ok (.return_, 1))) := by
  obtain ⟨pc, ls, st, h⟩ := g
  unfold zstep at hs
  split at hs
  · next i len hd =>
    split at hs
    · next hl =>
      by_cases i1 : i = .ireturn
      · subst i1
        obtain rfl := zl_len hl rfl
        simp only [zexec] at hs
        split at hs
        · next x =>
          split at hs
          · next ty h2 =>
            split at hs
            · next hn => cases hs; exact ⟨rfl, Or.inl ⟨x, ty, rfl, rfl, h2, hn, hd⟩⟩
            · cases hs
          · cases hs
        · cases hs
      · by_cases i2 : i = .lreturn
        · subst i2
          obtain rfl := zl_len hl rfl
          simp only [zexec] at hs
          split at hs
          · next x =>
            split at hs
            · next h2 => cases hs; exact ⟨rfl, Or.inr (Or.inl ⟨x, rfl, rfl, h2, hd⟩)⟩
            · cases hs
          · cases hs
        · by_cases i3 : i = .return_
          · subst i3
            obtain rfl := zl_len hl rfl
            simp only [zexec] at hs
            split at hs
            · split at hs
              · next h2 => cases hs; exact ⟨rfl, Or.inr (Or.inr ⟨rfl, rfl, h2, hd⟩)⟩
              · cases hs
            · cases hs
          · obtain ⟨g, hg⟩ := zexec_i hy i1 i2 i3 hs
            cases hg
    · cases hs
  · cases hs
/-- every run of a method, but led, is its contract -/
theorem zmet_all (l : Launch) (B : Nat) (sp : Nat → Nat) (cA : Nat → ClassId) (D : va_G) : ∀ n, zMetAll l B sp cA D n := by
  intro n
  induction n using Nat.strongRecOn with
  | ind n IH =>
    intro d cm vs h v h' hM hw hz
    have hle := zrun_h _ _ _ _ _ _ _ hz
    unfold zMet
    refine Met.ofW (cc := cm.1) (maxL := cm.2.2.1) (ret := cm.2.2.2.1) hM.2.2.1 rfl ?_
    intro p e s m args below meth c s₁ B' hml hv
    obtain ⟨rfl, hC, hR⟩ := hv
    have hts := atoms_spec (ws := zwsM cm) B'.pre
    have hown : s.vm.findClass cm.2.2.2.2.1.cls = some m.cls := findClass_of_methodNamed B'.named
    have hnm : meth.name = cm.2.2.2.2.1.name := (name_of_methodNamed B'.named B'.method).1
    have hlocks := B'.notSynchronized
    have cx : zX p s m (vs.map (zcv B sp)).toArray meth c B sp cA D cm := ⟨B'.exec, B'.bytes, hml, by rw [hM.2.1]; exact hown, fun w hw => hts w (List.mem_cons_of_mem _ hw), fun q => by rw [hnm]; exact hM.2.2.2.2.2.1 q, hC⟩
    have hl := lv_entry (vs.map (zcv B sp)) (n := cm.2.2.1) (by
      have e : ∀ us : List zV, (lg_sl (us.map (zcv B sp))).length = zwd us := by
        intro us
        induction us with
        | nil => rfl
        | cons u us ih =>
          have e1 : lg_sl ((u :: us).map (zcv B sp)) = (if (zcv B sp u).category = 2 then [.val (zcv B sp u), .second] else [.val (zcv B sp u)]) ++ lg_sl (us.map (zcv B sp)) := by simp [lg_sl]
          have e2 : zwd (u :: us) = zcat u + zwd us := by simp [zwd]
          rw [e1, e2, List.length_append, ih, zcat_cv]
          have : zcat u = 1 ∨ zcat u = 2 := by
            match u with
            | .inl _ => exact Or.inl rfl
            | .inr (.inl _) => exact Or.inr rfl
            | .inr (.inr _) => exact Or.inl rfl
          rcases this with q | q <;> rw [q] <;> simp
      rw [e]
      exact hw)
    rw [zargs_lv] at hl
    rw [lg_entry_eq]
    generalize (lg_sl (vs.map (zcv B sp)) ++ List.replicate (cm.2.2.1 - (lg_sl (vs.map (zcv B sp))).length) Slot.unset).toArray = lA at hl ⊢
    have hS : va_S (zAr B) s.heap s.heap [] := va_S.rf
    refine zsim_run (R := (headSpec (zwsM cm) (zrm d (zc h' - zc h) (zt h' - zt h))).room) (scr := none) (d := d) (v := v) (h' := h') (c0 := zc h) (s0 := zt h) (mi := cm) cx (fun L xs q => by cases q) (Nat.le_refl (d + 4)) (Nat.le_refl (60 * (d + 4))) ⟨by show zc h' ≤ zc h + (zc h' - zc h); omega, by show zt h' ≤ zt h + (zt h' - zt h); omega⟩ n IH (fun n k na cm pc ls st h g _ _ _ q => by cases q) ?_ n (0, zargs 0 vs, [], h) (Nat.le_refl n) hz s.heap [] lA 0 0 hR hS hl (by show zc h + 0 = zc h; omega) (by show zt h + 0 = zt h; omega)
    intro k g _ hs H locs lA' cells slots hR' hS' hl' h1 h2
    obtain ⟨e0, hcase⟩ := zs_fin hs hM.2.2.2.2.2.2
    rw [e0] at hR' h1 h2
    have hcl : cells = zc h' - zc h := by omega
    have hsl : slots = zt h' - zt h := by omega
    subst hcl
    subst hsl
    rcases hcase with ⟨x, ty, rfl, e1, e2, hn, hd⟩ | ⟨x, rfl, e1, e2, hd⟩ | ⟨rfl, e1, e2, hd⟩
    · rw [e1]
      exact W.zret (v := x) (ty := ty) cx.1 cx.2.1 (by rw [B'.returns]; exact e2) hn (fun t ht hW => ⟨⟨x, (), rfl, rfl, by show zRel B sp cA D h' t.heap; rw [ht]; exact hR'⟩, hS'.F ht⟩) hS'.2.2 hd
    · rw [e1]
      exact W.lret (v := x) cx.1 cx.2.1 (by rw [B'.returns]; exact e2) (fun t ht hW => ⟨⟨x, (), rfl, rfl, by show zRel B sp cA D h' t.heap; rw [ht]; exact hR'⟩, hS'.F ht⟩) hS'.2.2 hd
    · rw [e1]
      exact W.vret cx.1 cx.2.1 (by rw [B'.returns]; exact e2) (fun t ht hW => ⟨⟨(), rfl, trivial, by show zRel B sp cA D h' t.heap; rw [ht]; exact hR'⟩, hS'.F ht⟩) hS'.2.2 hd
end ZS8
end Pk7
section Pk8
/-! the small machine's own judgement: a run that ends, and what holds then -/
def zEx (scr : Option (Nat × (Nat → Int32))) (d : Nat) (m : zM) (g : zC) (Q : Option zV → zH → Prop) : Prop := ∃ (n : Nat) (v : Option zV) (h' : zH), zrun n scr d m g = some (v, h') ∧ Q v h'
/-- a contract of a method -/
def zCt (d : Nat) (m : zM) (vs : List zV) (h : zH) (Q : Option zV → zH → Prop) : Prop := zEx none d m (0, zargs 0 vs, [], h) Q
section ZF
variable {pc len : Nat} {ls : zL} {st : List zV} {h : zH} {x : zC ⊕ zR} {call call' : zM → List zV → zH → Option zR}
theorem zcall_m {cm : zM} {kd na : Nat} (hc : ∀ k vs h r, call k vs h = some r → call' k vs h = some r) (hz : zcall call cm kd na pc ls st h = some x) : zcall call' cm kd na pc ls st h = some x := by
  unfold zcall at hz ⊢
  split at hz
  · next q =>
    rw [if_pos q]
    split at hz
    · next q2 =>
      rw [if_pos q2]
      split at hz
      · next r h' q3 => rw [hc _ _ _ _ q3]; exact hz
      · cases hz
    · next q2 =>
      rw [if_neg q2]
      split at hz
      · next a vs q3 =>
        split at hz
        · next k n q4 =>
          split at hz
          · next q5 =>
            rw [if_pos q5]
            split at hz
            · next r h' q6 => rw [hc _ _ _ _ q6]; exact hz
            · cases hz
          · cases hz
        · cases hz
      · cases hz
  · cases hz
theorem zled_m (hc : ∀ k vs h r, call k vs h = some r → call' k vs h = some r) (hz : zled call pc ls st h = some x) : zled call' pc ls st h = some x := by
  unfold zled at hz ⊢
  split at hz
  · next o p0 a st' =>
    split at hz
    · next q =>
      rw [if_pos q]
      split at hz
      · next b h' q3 => rw [hc _ _ _ _ q3]; exact hz
      · next b h' q3 => rw [hc _ _ _ _ q3]; exact hz
      · cases hz
    · cases hz
  · cases hz
theorem zexec_m {scr : Option (Nat × (Nat → Int32))} {deep : Bool} {m : zM} {i : Instr} (hc : ∀ k vs h r, call k vs h = some r → call' k vs h = some r) (hs : zexec scr call deep m i len pc ls st h = some x) : zexec scr call' deep m i len pc ls st h = some x := by
  cases i with
  | invokevirtual k =>
    simp only [zexec] at hs ⊢
    split at hs
    · next q =>
      split at hs
      · next q2 =>
        rw [if_pos q2]
        split at hs
        · next q3 => rw [if_pos q3]; exact hs
        · next q3 => rw [if_neg q3]; exact zcall_m hc hs
      · cases hs
    · cases hs
  | invokestatic k =>
    simp only [zexec] at hs ⊢
    split at hs
    · next q =>
      split at hs
      · next q2 => rw [if_pos q2]; exact zcall_m hc hs
      · next q2 =>
        rw [if_neg q2]
        split at hs
        · next q3 =>
          rw [if_pos q3]
          split at hs
          · next q4 => rw [if_pos q4]; exact zled_m hc hs
          · cases hs
        · next q3 => rw [if_neg q3]; exact hs
    · cases hs
  | invokespecial k =>
    simp only [zexec] at hs ⊢
    split at hs
    · next q =>
      split at hs
      · next q2 => rw [if_pos q2]; exact zcall_m hc hs
      · next q2 => rw [if_neg q2]; exact hs
    · cases hs
  | _ => exact hs
end ZF
theorem zrun_m : ∀ (n : Nat) (scr : Option (Nat × (Nat → Int32))) (d : Nat) (m : zM) (g : zC) (r : zR), zrun n scr d m g = some r → zrun (n + 1) scr d m g = some r := by
  intro n
  induction n with
  | zero => intro scr d m g r hz; cases hz
  | succ n ih =>
    intro scr d m g r hz
    rw [zrun_succ] at hz ⊢
    have hc : ∀ k vs h r, zcf n d k vs h = some r → zcf (n + 1) d k vs h = some r := by
      intro k vs h r hq
      unfold zcf at hq ⊢
      split at hq
      · cases hq
      · split at hq
        · next q => rw [if_pos q]; exact ih _ _ _ _ _ hq
        · cases hq
    have step : ∀ x, zstep scr (zcf n d) (decide (0 < d)) m g = some x → zstep scr (zcf (n + 1) d) (decide (0 < d)) m g = some x := by
      intro x hs
      unfold zstep at hs ⊢
      split at hs
      · next i len hd =>
        split at hs
        · next q => rw [if_pos q]; exact zexec_m hc hs
        · cases hs
      · cases hs
    split at hz
    · next g' hs => rw [step _ hs]; exact ih _ _ _ _ _ hz
    · next r' hs => rw [step _ hs]; exact hz
    · cases hz
theorem zrun_le {n n' : Nat} {scr : Option (Nat × (Nat → Int32))} {d : Nat} {m : zM} {g : zC} {r : zR} (hn : n ≤ n') (hz : zrun n scr d m g = some r) : zrun n' scr d m g = some r := by
  obtain ⟨k, rfl⟩ := Nat.exists_eq_add_of_le hn
  clear hn
  induction k with
  | zero => exact hz
  | succ k ih => exact zrun_m _ _ _ _ _ _ ih
section ZX
variable {scr : Option (Nat × (Nat → Int32))} {d : Nat} {m : zM} {pc pc' len : Nat} {ls : zL} {st : List zV} {h : zH} {Q : Option zV → zH → Prop} {i : Instr}
theorem ex_go {g' : zC} (hd : decode m.1 pc = .ok (i, len)) (hl : zilen i = 0 ∨ len = zilen i) (hx : ∀ call, zexec scr call (decide (0 < d)) m i len pc ls st h = some (.inl g')) (k : zEx scr d m g' Q) : zEx scr d m (pc, ls, st, h) Q := by
  obtain ⟨n, v, h', h1, h2⟩ := k
  refine ⟨n + 1, v, h', ?_, h2⟩
  rw [zrun_succ]
  have hs : zstep scr (zcf n d) (decide (0 < d)) m (pc, ls, st, h) = some (.inl g') := by
    unfold zstep
    rw [hd]
    dsimp only
    rw [if_pos hl]
    exact hx _
  rw [hs]
  exact h1
theorem ex_end {v : Option zV} {h' : zH} (hd : decode m.1 pc = .ok (i, len)) (hl : zilen i = 0 ∨ len = zilen i) (hx : ∀ call, zexec scr call (decide (0 < d)) m i len pc ls st h = some (.inr (v, h'))) (hq : Q v h') : zEx scr d m (pc, ls, st, h) Q := by
  refine ⟨1, v, h', ?_, hq⟩
  rw [zrun_succ]
  have hs : zstep scr (zcf 0 d) (decide (0 < d)) m (pc, ls, st, h) = some (.inr (v, h')) := by
    unfold zstep
    rw [hd]
    dsimp only
    rw [if_pos hl]
    exact hx _
  rw [hs]
theorem ex_call {cm : zM} {vs rest : List zV} {Qc : Option zV → zH → Prop} (hd : decode m.1 pc = .ok (i, len)) (hl : zilen i = 0 ∨ len = zilen i) (hx : ∀ call r h', call cm vs h = some (r, h') → zexec scr call true m i len pc ls st h = some (.inl (pc', ls, r.toList ++ rest, h'))) (hw : zwd vs ≤ cm.2.2.1) (hc : zCt d cm vs h Qc) (k : ∀ r h', Qc r h' → zEx scr (d + 1) m (pc', ls, r.toList ++ rest, h') Q) : zEx scr (d + 1) m (pc, ls, st, h) Q := by
  obtain ⟨n1, r, h1, a1, a2⟩ := hc
  obtain ⟨n2, v, h', b1, b2⟩ := k r h1 a2
  refine ⟨max n1 n2 + 1, v, h', ?_, b2⟩
  rw [zrun_succ]
  have hs : zstep scr (zcf (max n1 n2) (d + 1)) (decide (0 < d + 1)) m (pc, ls, st, h) = some (.inl (pc', ls, r.toList ++ rest, h1)) := by
    unfold zstep
    rw [hd]
    dsimp only
    rw [if_pos hl]
    have e : decide (0 < d + 1) = true := by simp
    rw [e]
    refine hx _ _ _ ?_
    unfold zcf
    dsimp only
    rw [if_pos hw]
    exact zrun_le (Nat.le_max_left _ _) a1
  rw [hs]
  exact zrun_le (Nat.le_max_right _ _) b1
theorem zEx.mono {Q' : Option zV → zH → Prop} {g : zC} (k : zEx scr d m g Q) (hq : ∀ v h', Q v h' → Q' v h') : zEx scr d m g Q' := by
  obtain ⟨n, v, h', a, b⟩ := k
  exact ⟨n, v, h', a, hq v h' b⟩
theorem ex_iconst {n : Int} {v : Int32} (hd : decode m.1 pc = .ok (.iconst n, 1)) (hv : Int32.ofInt n = v) (hp : pc + 1 = pc') (k : zEx scr d m (pc', ls, .inl v :: st, h) Q) : zEx scr d m (pc, ls, st, h) Q := by
  subst hp; subst hv; exact ex_go hd (Or.inr rfl) (fun _ => rfl) k
theorem ex_bipush {n : Int} {v : Int32} (hd : decode m.1 pc = .ok (.bipush n, 2)) (hv : (Int8.ofInt n).toInt32 = v) (hp : pc + 2 = pc') (k : zEx scr d m (pc', ls, .inl v :: st, h) Q) : zEx scr d m (pc, ls, st, h) Q := by
  subst hp; subst hv; exact ex_go hd (Or.inr rfl) (fun _ => rfl) k
theorem ex_sipush {n : Int} {v : Int32} (hd : decode m.1 pc = .ok (.sipush n, 3)) (hv : (Int16.ofInt n).toInt32 = v) (hp : pc + 3 = pc') (k : zEx scr d m (pc', ls, .inl v :: st, h) Q) : zEx scr d m (pc, ls, st, h) Q := by
  subst hp; subst hv; exact ex_go hd (Or.inr rfl) (fun _ => rfl) k
theorem ex_lconst {n : Fin 2} {v : Int64} (hd : decode m.1 pc = .ok (.lconst n, 1)) (hv : Int64.ofNat (n : Nat) = v) (hp : pc + 1 = pc') (k : zEx scr d m (pc', ls, .inr (.inl v) :: st, h) Q) : zEx scr d m (pc, ls, st, h) Q := by
  subst hp; subst hv; exact ex_go hd (Or.inr rfl) (fun _ => rfl) k
theorem ex_ldc {k : Nat} {v : zV} (hd : decode m.1 pc = .ok (.ldc k, 2)) (hv : zcst m.2.1 k = some v) (hc : zcat v = 1) (hp : pc + 2 = pc') (kk : zEx scr d m (pc', ls, v :: st, h) Q) : zEx scr d m (pc, ls, st, h) Q := by
  subst hp; exact ex_go hd (Or.inr rfl) (fun _ => by simp only [zexec, zldv, hv]; rw [if_pos hc]) kk
theorem ex_ldcw {k : Nat} {v : zV} (hd : decode m.1 pc = .ok (.ldc_w k, 3)) (hv : zcst m.2.1 k = some v) (hc : zcat v = 1) (hp : pc + 3 = pc') (kk : zEx scr d m (pc', ls, v :: st, h) Q) : zEx scr d m (pc, ls, st, h) Q := by
  subst hp; exact ex_go hd (Or.inr rfl) (fun _ => by simp only [zexec, zldv, hv]; rw [if_pos hc]) kk
theorem ex_ldc2 {k : Nat} {v : zV} (hd : decode m.1 pc = .ok (.ldc2_w k, 3)) (hv : zcst m.2.1 k = some v) (hc : zcat v = 2) (hp : pc + 3 = pc') (kk : zEx scr d m (pc', ls, v :: st, h) Q) : zEx scr d m (pc, ls, st, h) Q := by
  subst hp; exact ex_go hd (Or.inr rfl) (fun _ => by simp only [zexec, zldv, hv]; rw [if_pos hc]) kk
theorem ex_iload {j : Nat} {v : Int32} (hd : decode m.1 pc = .ok (.iload j, 2)) (hv : zget ls j = some (.inl v)) (hp : pc + 2 = pc') (k : zEx scr d m (pc', ls, .inl v :: st, h) Q) : zEx scr d m (pc, ls, st, h) Q := by
  subst hp; exact ex_go hd (Or.inr rfl) (fun _ => by simp only [zexec, zload, hv]; rfl) k
theorem ex_iload_n {j : Fin 4} {v : Int32} (hd : decode m.1 pc = .ok (.iload_n j, 1)) (hv : zget ls (j : Nat) = some (.inl v)) (hp : pc + 1 = pc') (k : zEx scr d m (pc', ls, .inl v :: st, h) Q) : zEx scr d m (pc, ls, st, h) Q := by
  subst hp; exact ex_go hd (Or.inr rfl) (fun _ => by simp only [zexec, zload, hv]; rfl) k
theorem ex_lload {j : Nat} {v : Int64} (hd : decode m.1 pc = .ok (.lload j, 2)) (hv : zget ls j = some (.inr (.inl v))) (hp : pc + 2 = pc') (k : zEx scr d m (pc', ls, .inr (.inl v) :: st, h) Q) : zEx scr d m (pc, ls, st, h) Q := by
  subst hp; exact ex_go hd (Or.inr rfl) (fun _ => by simp only [zexec, zload, hv]; rfl) k
theorem ex_lload_n {j : Fin 4} {v : Int64} (hd : decode m.1 pc = .ok (.lload_n j, 1)) (hv : zget ls (j : Nat) = some (.inr (.inl v))) (hp : pc + 1 = pc') (k : zEx scr d m (pc', ls, .inr (.inl v) :: st, h) Q) : zEx scr d m (pc, ls, st, h) Q := by
  subst hp; exact ex_go hd (Or.inr rfl) (fun _ => by simp only [zexec, zload, hv]; rfl) k
theorem ex_aload {j : Nat} {v : Nat} (hd : decode m.1 pc = .ok (.aload j, 2)) (hv : zget ls j = some (.inr (.inr (some v)))) (hp : pc + 2 = pc') (k : zEx scr d m (pc', ls, .inr (.inr (some v)) :: st, h) Q) : zEx scr d m (pc, ls, st, h) Q := by
  subst hp; exact ex_go hd (Or.inr rfl) (fun _ => by simp only [zexec, zload, hv]; rfl) k
theorem ex_aload_n {j : Fin 4} {v : Nat} (hd : decode m.1 pc = .ok (.aload_n j, 1)) (hv : zget ls (j : Nat) = some (.inr (.inr (some v)))) (hp : pc + 1 = pc') (k : zEx scr d m (pc', ls, .inr (.inr (some v)) :: st, h) Q) : zEx scr d m (pc, ls, st, h) Q := by
  subst hp; exact ex_go hd (Or.inr rfl) (fun _ => by simp only [zexec, zload, hv]; rfl) k
theorem ex_istore {j : Nat} {v : Int32} {ls' : zL} (hd : decode m.1 pc = .ok (.istore j, 2)) (hj : j < m.2.2.1) (hl : zset1 ls j (.inl v) = ls') (hp : pc + 2 = pc') (k : zEx scr d m (pc', ls', st, h) Q) : zEx scr d m (pc, ls, .inl v :: st, h) Q := by
  subst hp; subst hl; exact ex_go hd (Or.inr rfl) (fun _ => by simp only [zexec, zstore]; rw [if_pos ⟨trivial, hj⟩]) k
theorem ex_istore_n {j : Fin 4} {v : Int32} {ls' : zL} (hd : decode m.1 pc = .ok (.istore_n j, 1)) (hj : (j : Nat) < m.2.2.1) (hl : zset1 ls (j : Nat) (.inl v) = ls') (hp : pc + 1 = pc') (k : zEx scr d m (pc', ls', st, h) Q) : zEx scr d m (pc, ls, .inl v :: st, h) Q := by
  subst hp; subst hl; exact ex_go hd (Or.inr rfl) (fun _ => by simp only [zexec, zstore]; rw [if_pos ⟨trivial, hj⟩]) k
theorem ex_lstore {j : Nat} {v : Int64} {ls' : zL} (hd : decode m.1 pc = .ok (.lstore j, 2)) (hj : j + 1 < m.2.2.1) (hl : zset2 ls j (.inr (.inl v)) = ls') (hp : pc + 2 = pc') (k : zEx scr d m (pc', ls', st, h) Q) : zEx scr d m (pc, ls, .inr (.inl v) :: st, h) Q := by
  subst hp; subst hl; exact ex_go hd (Or.inr rfl) (fun _ => by simp only [zexec, zstore]; rw [if_pos ⟨trivial, hj⟩]) k
theorem ex_lstore_n {j : Fin 4} {v : Int64} {ls' : zL} (hd : decode m.1 pc = .ok (.lstore_n j, 1)) (hj : (j : Nat) + 1 < m.2.2.1) (hl : zset2 ls (j : Nat) (.inr (.inl v)) = ls') (hp : pc + 1 = pc') (k : zEx scr d m (pc', ls', st, h) Q) : zEx scr d m (pc, ls, .inr (.inl v) :: st, h) Q := by
  subst hp; subst hl; exact ex_go hd (Or.inr rfl) (fun _ => by simp only [zexec, zstore]; rw [if_pos ⟨trivial, hj⟩]) k
theorem ex_astore {j : Nat} {v : Nat} {ls' : zL} (hd : decode m.1 pc = .ok (.astore j, 2)) (hj : j < m.2.2.1) (hl : zset1 ls j (.inr (.inr (some v))) = ls') (hp : pc + 2 = pc') (k : zEx scr d m (pc', ls', st, h) Q) : zEx scr d m (pc, ls, .inr (.inr (some v)) :: st, h) Q := by
  subst hp; subst hl; exact ex_go hd (Or.inr rfl) (fun _ => by simp only [zexec, zstore]; rw [if_pos ⟨trivial, hj⟩]) k
theorem ex_astore_n {j : Fin 4} {v : Nat} {ls' : zL} (hd : decode m.1 pc = .ok (.astore_n j, 1)) (hj : (j : Nat) < m.2.2.1) (hl : zset1 ls (j : Nat) (.inr (.inr (some v))) = ls') (hp : pc + 1 = pc') (k : zEx scr d m (pc', ls', st, h) Q) : zEx scr d m (pc, ls, .inr (.inr (some v)) :: st, h) Q := by
  subst hp; subst hl; exact ex_go hd (Or.inr rfl) (fun _ => by simp only [zexec, zstore]; rw [if_pos ⟨trivial, hj⟩]) k
theorem ex_iinc {j : Nat} {n : Int} {x v : Int32} {ls' : zL} (hd : decode m.1 pc = .ok (.iinc j n, 3)) (hg : zget ls j = some (.inl x)) (hj : j < m.2.2.1) (hv : x + Int32.ofInt n = v) (hl : zset1 ls j (.inl v) = ls') (hp : pc + 3 = pc') (k : zEx scr d m (pc', ls', st, h) Q) : zEx scr d m (pc, ls, st, h) Q := by
  subst hp; subst hl; subst hv; exact ex_go hd (Or.inr rfl) (fun _ => by simp only [zexec, hg]; rw [if_pos hj]) k
theorem ex_bin {x y v : Int32} (hd : decode m.1 pc = .ok (i, 1)) (hi : zilen i = 1) (hx : ∀ (call : zM → List zV → zH → Option zR) (deep : Bool) st, zexec scr call deep m i 1 pc ls st h = zarith i 1 pc ls st h) (hz : zbin i x y = some v) (hp : pc + 1 = pc') (k : zEx scr d m (pc', ls, .inl v :: st, h) Q) : zEx scr d m (pc, ls, .inl y :: .inl x :: st, h) Q := by
  subst hp; exact ex_go hd (Or.inr hi.symm) (fun _ => by rw [hx]; simp only [zarith, hz]) k
theorem ex_iadd {x y v : Int32} (hd : decode m.1 pc = .ok (.iadd, 1)) (hv : x + y = v) (hp : pc + 1 = pc') (k : zEx scr d m (pc', ls, .inl v :: st, h) Q) : zEx scr d m (pc, ls, .inl y :: .inl x :: st, h) Q := by
  subst hv; exact ex_bin hd rfl (fun _ _ _ => rfl) rfl hp k
theorem ex_isub {x y v : Int32} (hd : decode m.1 pc = .ok (.isub, 1)) (hv : x - y = v) (hp : pc + 1 = pc') (k : zEx scr d m (pc', ls, .inl v :: st, h) Q) : zEx scr d m (pc, ls, .inl y :: .inl x :: st, h) Q := by
  subst hv; exact ex_bin hd rfl (fun _ _ _ => rfl) rfl hp k
theorem ex_imul {x y v : Int32} (hd : decode m.1 pc = .ok (.imul, 1)) (hv : x * y = v) (hp : pc + 1 = pc') (k : zEx scr d m (pc', ls, .inl v :: st, h) Q) : zEx scr d m (pc, ls, .inl y :: .inl x :: st, h) Q := by
  subst hv; exact ex_bin hd rfl (fun _ _ _ => rfl) rfl hp k
theorem ex_iand {x y v : Int32} (hd : decode m.1 pc = .ok (.iand, 1)) (hv : x &&& y = v) (hp : pc + 1 = pc') (k : zEx scr d m (pc', ls, .inl v :: st, h) Q) : zEx scr d m (pc, ls, .inl y :: .inl x :: st, h) Q := by
  subst hv; exact ex_bin hd rfl (fun _ _ _ => rfl) rfl hp k
theorem ex_ior {x y v : Int32} (hd : decode m.1 pc = .ok (.ior, 1)) (hv : x ||| y = v) (hp : pc + 1 = pc') (k : zEx scr d m (pc', ls, .inl v :: st, h) Q) : zEx scr d m (pc, ls, .inl y :: .inl x :: st, h) Q := by
  subst hv; exact ex_bin hd rfl (fun _ _ _ => rfl) rfl hp k
theorem ex_ixor {x y v : Int32} (hd : decode m.1 pc = .ok (.ixor, 1)) (hv : x ^^^ y = v) (hp : pc + 1 = pc') (k : zEx scr d m (pc', ls, .inl v :: st, h) Q) : zEx scr d m (pc, ls, .inl y :: .inl x :: st, h) Q := by
  subst hv; exact ex_bin hd rfl (fun _ _ _ => rfl) rfl hp k
theorem ex_ishl {x y v : Int32} (hd : decode m.1 pc = .ok (.ishl, 1)) (hv : x <<< (y &&& 31) = v) (hp : pc + 1 = pc') (k : zEx scr d m (pc', ls, .inl v :: st, h) Q) : zEx scr d m (pc, ls, .inl y :: .inl x :: st, h) Q := by
  subst hv; exact ex_bin hd rfl (fun _ _ _ => rfl) rfl hp k
theorem ex_ishr {x y v : Int32} (hd : decode m.1 pc = .ok (.ishr, 1)) (hv : x >>> (y &&& 31) = v) (hp : pc + 1 = pc') (k : zEx scr d m (pc', ls, .inl v :: st, h) Q) : zEx scr d m (pc, ls, .inl y :: .inl x :: st, h) Q := by
  subst hv; exact ex_bin hd rfl (fun _ _ _ => rfl) rfl hp k
theorem ex_iushr {x y v : Int32} (hd : decode m.1 pc = .ok (.iushr, 1)) (hv : (x.toUInt32 >>> (y.toUInt32 &&& Int32.toUInt32 31)).toInt32 = v) (hp : pc + 1 = pc') (k : zEx scr d m (pc', ls, .inl v :: st, h) Q) : zEx scr d m (pc, ls, .inl y :: .inl x :: st, h) Q := by
  subst hv; exact ex_bin hd rfl (fun _ _ _ => rfl) rfl hp k
theorem ex_idiv {x y v : Int32} (hd : decode m.1 pc = .ok (.idiv, 1)) (hy : ¬ y = 0) (hv : x / y = v) (hp : pc + 1 = pc') (k : zEx scr d m (pc', ls, .inl v :: st, h) Q) : zEx scr d m (pc, ls, .inl y :: .inl x :: st, h) Q := by
  subst hv; exact ex_bin hd rfl (fun _ _ _ => rfl) (by simp only [zbin]; rw [if_neg hy]) hp k
theorem ex_irem {x y v : Int32} (hd : decode m.1 pc = .ok (.irem, 1)) (hy : ¬ y = 0) (hv : x - x / y * y = v) (hp : pc + 1 = pc') (k : zEx scr d m (pc', ls, .inl v :: st, h) Q) : zEx scr d m (pc, ls, .inl y :: .inl x :: st, h) Q := by
  subst hv; exact ex_bin hd rfl (fun _ _ _ => rfl) (by simp only [zbin]; rw [if_neg hy]) hp k
theorem ex_un {x : Int32} {v : zV} (hd : decode m.1 pc = .ok (i, 1)) (hi : zilen i = 1) (hx : ∀ (call : zM → List zV → zH → Option zR) (deep : Bool) st, zexec scr call deep m i 1 pc ls st h = zarith i 1 pc ls st h) (hb : ∀ a b, zbin i a b = none) (hz : zun i x = some v) (hp : pc + 1 = pc') (k : zEx scr d m (pc', ls, v :: st, h) Q) : zEx scr d m (pc, ls, .inl x :: st, h) Q := by
  subst hp
  refine ex_go hd (Or.inr hi.symm) (fun _ => ?_) k
  rw [hx]
  unfold zarith
  split
  · next y x' st' e =>
    cases e
    rw [hb, hz]
  · next x' st' h0 e =>
    cases e
    rw [hz]
  · next e => cases e
  · next h1 h2 h3 => exact absurd rfl (h2 x st)
theorem ex_i2l {x : Int32} {v : Int64} (hd : decode m.1 pc = .ok (.i2l, 1)) (hv : x.toInt64 = v) (hp : pc + 1 = pc') (k : zEx scr d m (pc', ls, .inr (.inl v) :: st, h) Q) : zEx scr d m (pc, ls, .inl x :: st, h) Q := by
  subst hv; exact ex_un hd rfl (fun _ _ _ => rfl) (fun _ _ => rfl) rfl hp k
theorem ex_i2b {x : Int32} {v : Int32} (hd : decode m.1 pc = .ok (.i2b, 1)) (hv : x.toInt8.toInt32 = v) (hp : pc + 1 = pc') (k : zEx scr d m (pc', ls, .inl v :: st, h) Q) : zEx scr d m (pc, ls, .inl x :: st, h) Q := by
  subst hv; exact ex_un hd rfl (fun _ _ _ => rfl) (fun _ _ => rfl) rfl hp k
theorem ex_i2c {x : Int32} {v : Int32} (hd : decode m.1 pc = .ok (.i2c, 1)) (hv : (x.toUInt32 % 65536).toInt32 = v) (hp : pc + 1 = pc') (k : zEx scr d m (pc', ls, .inl v :: st, h) Q) : zEx scr d m (pc, ls, .inl x :: st, h) Q := by
  subst hv; exact ex_un hd rfl (fun _ _ _ => rfl) (fun _ _ => rfl) rfl hp k
theorem ex_lcmp {x y : Int64} {v : Int32} (hd : decode m.1 pc = .ok (.lcmp, 1)) (hv : lg_cmp x y = v) (hp : pc + 1 = pc') (k : zEx scr d m (pc', ls, .inl v :: st, h) Q) : zEx scr d m (pc, ls, .inr (.inl y) :: .inr (.inl x) :: st, h) Q := by
  subst hv; subst hp; exact ex_go hd (Or.inr rfl) (fun _ => rfl) k
theorem ex_lor {x y v : Int64} (hd : decode m.1 pc = .ok (.lor, 1)) (hv : x ||| y = v) (hp : pc + 1 = pc') (k : zEx scr d m (pc', ls, .inr (.inl v) :: st, h) Q) : zEx scr d m (pc, ls, .inr (.inl y) :: .inr (.inl x) :: st, h) Q := by
  subst hv; subst hp; exact ex_go hd (Or.inr rfl) (fun _ => rfl) k
theorem ex_lrem {x y v : Int64} (hd : decode m.1 pc = .ok (.lrem, 1)) (hy : ¬ y = 0) (hv : x - x / y * y = v) (hp : pc + 1 = pc') (k : zEx scr d m (pc', ls, .inr (.inl v) :: st, h) Q) : zEx scr d m (pc, ls, .inr (.inl y) :: .inr (.inl x) :: st, h) Q := by
  subst hv; subst hp; exact ex_go hd (Or.inr rfl) (fun _ => by simp only [zexec, zarith, zlbin]; rw [if_neg hy]) k
theorem ex_ldiv {x y v : Int64} (hd : decode m.1 pc = .ok (.ldiv, 1)) (hy : ¬ y = 0) (hv : x / y = v) (hp : pc + 1 = pc') (k : zEx scr d m (pc', ls, .inr (.inl v) :: st, h) Q) : zEx scr d m (pc, ls, .inr (.inl y) :: .inr (.inl x) :: st, h) Q := by
  subst hv; subst hp; exact ex_go hd (Or.inr rfl) (fun _ => by simp only [zexec, zarith, zlbin]; rw [if_neg hy]) k
theorem ex_lshl {x v : Int64} {y : Int32} (hd : decode m.1 pc = .ok (.lshl, 1)) (hv : x <<< (y.toInt64 &&& 63) = v) (hp : pc + 1 = pc') (k : zEx scr d m (pc', ls, .inr (.inl v) :: st, h) Q) : zEx scr d m (pc, ls, .inl y :: .inr (.inl x) :: st, h) Q := by
  subst hv; subst hp; exact ex_go hd (Or.inr rfl) (fun _ => rfl) k
theorem ex_goto {off : Int} (hd : decode m.1 pc = .ok (.goto off, 3)) (hp : (pc : Int) + off = (pc' : Int)) (k : zEx scr d m (pc', ls, st, h) Q) : zEx scr d m (pc, ls, st, h) Q :=
  ex_go hd (Or.inr rfl) (fun _ => by simp only [zexec, zjump, hp]; rfl) k
theorem ex_br {b : Bool} {off : Int} {g' : zC} (hp : (pc : Int) + off = (pc' : Int)) (hb : (b = true ∧ g' = (pc', ls, st, h)) ∨ (b = false ∧ g' = (pc + 3, ls, st, h))) : zbr b pc 3 off ls st h = some (.inl g') := by
  unfold zbr
  rw [hp, if_pos (Int.natCast_nonneg _)]
  rcases hb with ⟨rfl, rfl⟩ | ⟨rfl, rfl⟩
  · simp
  · simp
/-- branches: both roads, the taken one, the other one -/
theorem ex_if {cd : ClassFile.Cond} {off : Int} {x : Int32} {pc2 : Nat} (hd : decode m.1 pc = .ok (.ifCond cd off, 3)) (hp : (pc : Int) + off = (pc' : Int)) (hp2 : pc + 3 = pc2) (kt : zcond cd x 0 = true → zEx scr d m (pc', ls, st, h) Q) (kf : zcond cd x 0 = false → zEx scr d m (pc2, ls, st, h) Q) : zEx scr d m (pc, ls, .inl x :: st, h) Q := by
  subst hp2
  cases hc : zcond cd x 0 with
  | true => exact ex_go hd (Or.inr rfl) (fun _ => by simp only [zexec]; exact ex_br hp (Or.inl ⟨hc, rfl⟩)) (kt hc)
  | false => exact ex_go hd (Or.inr rfl) (fun _ => by simp only [zexec]; exact ex_br hp (Or.inr ⟨hc, rfl⟩)) (kf hc)
theorem ex_icmp {cd : ClassFile.Cond} {off : Int} {x y : Int32} {pc2 : Nat} (hd : decode m.1 pc = .ok (.if_icmp cd off, 3)) (hp : (pc : Int) + off = (pc' : Int)) (hp2 : pc + 3 = pc2) (kt : zcond cd x y = true → zEx scr d m (pc', ls, st, h) Q) (kf : zcond cd x y = false → zEx scr d m (pc2, ls, st, h) Q) : zEx scr d m (pc, ls, .inl y :: .inl x :: st, h) Q := by
  subst hp2
  cases hc : zcond cd x y with
  | true => exact ex_go hd (Or.inr rfl) (fun _ => by simp only [zexec]; exact ex_br hp (Or.inl ⟨hc, rfl⟩)) (kt hc)
  | false => exact ex_go hd (Or.inr rfl) (fun _ => by simp only [zexec]; exact ex_br hp (Or.inr ⟨hc, rfl⟩)) (kf hc)
theorem ex_if_t {cd : ClassFile.Cond} {off : Int} {x : Int32} (hd : decode m.1 pc = .ok (.ifCond cd off, 3)) (hc : zcond cd x 0 = true) (hp : (pc : Int) + off = (pc' : Int)) (k : zEx scr d m (pc', ls, st, h) Q) : zEx scr d m (pc, ls, .inl x :: st, h) Q :=
  ex_if hd hp rfl (fun _ => k) (fun q => absurd (hc.symm.trans q) (by decide))
theorem ex_if_f {cd : ClassFile.Cond} {off : Int} {x : Int32} (hd : decode m.1 pc = .ok (.ifCond cd off, 3)) (hc : zcond cd x 0 = false) (ho : 0 ≤ (pc : Int) + off) (hp : pc + 3 = pc') (k : zEx scr d m (pc', ls, st, h) Q) : zEx scr d m (pc, ls, .inl x :: st, h) Q :=
  ex_if (pc' := ((pc : Int) + off).toNat) hd (Int.toNat_of_nonneg ho).symm hp (fun q => absurd (hc.symm.trans q) (by decide)) (fun _ => k)
theorem ex_icmp_t {cd : ClassFile.Cond} {off : Int} {x y : Int32} (hd : decode m.1 pc = .ok (.if_icmp cd off, 3)) (hc : zcond cd x y = true) (hp : (pc : Int) + off = (pc' : Int)) (k : zEx scr d m (pc', ls, st, h) Q) : zEx scr d m (pc, ls, .inl y :: .inl x :: st, h) Q :=
  ex_icmp hd hp rfl (fun _ => k) (fun q => absurd (hc.symm.trans q) (by decide))
theorem ex_icmp_f {cd : ClassFile.Cond} {off : Int} {x y : Int32} (hd : decode m.1 pc = .ok (.if_icmp cd off, 3)) (hc : zcond cd x y = false) (ho : 0 ≤ (pc : Int) + off) (hp : pc + 3 = pc') (k : zEx scr d m (pc', ls, st, h) Q) : zEx scr d m (pc, ls, .inl y :: .inl x :: st, h) Q :=
  ex_icmp (pc' := ((pc : Int) + off).toNat) hd (Int.toNat_of_nonneg ho).symm hp (fun q => absurd (hc.symm.trans q) (by decide)) (fun _ => k)
theorem ex_switch {df lo hi : Int} {offs : Array Int} {x : Int32} (hd : decode m.1 pc = .ok (.tableswitch df lo hi offs, len)) (hc : (x.toInt < lo ∨ hi < x.toInt) → (pc : Int) + df = (pc' : Int)) (hc2 : ¬ (x.toInt < lo ∨ hi < x.toInt) → ∃ off, offs[(x.toInt - lo).toNat]? = some off ∧ (pc : Int) + off = (pc' : Int)) (k : zEx scr d m (pc', ls, st, h) Q) : zEx scr d m (pc, ls, .inl x :: st, h) Q := by
  refine ex_go hd (Or.inl rfl) (fun _ => ?_) k
  simp only [zexec]
  by_cases hb : x.toInt < lo ∨ hi < x.toInt
  · rw [if_pos hb]
    simp only [zjump, hc hb]
    rfl
  · rw [if_neg hb]
    obtain ⟨off, h1, h2⟩ := hc2 hb
    rw [h1]
    simp only [zjump, h2]
    rfl
theorem ex_getI {k a ci f n : Nat} {v : Int32} (hd : decode m.1 pc = .ok (.getfield k, 3)) (hz : zfld m.2.1 k = some (ci, f)) (hs : zsh h a = some (ci, n)) (hc : (zft ci).getD f 0 ≠ 3) (hv : h.2.1 a f = v) (hp : pc + 3 = pc') (kk : zEx scr d m (pc', ls, .inl v :: st, h) Q) : zEx scr d m (pc, ls, .inr (.inr (some a)) :: st, h) Q := by
  subst hp; exact ex_go hd (Or.inr rfl) (fun _ => by simp only [zexec, hz, hs, zfv, if_neg hc, hv]; rfl) kk
theorem ex_getR {k a ci f n r : Nat} (hd : decode m.1 pc = .ok (.getfield k, 3)) (hz : zfld m.2.1 k = some (ci, f)) (hs : zsh h a = some (ci, n)) (hc : (zft ci).getD f 0 = 3) (hv : h.2.2.2.1 a f = some r) (hp : pc + 3 = pc') (kk : zEx scr d m (pc', ls, .inr (.inr (some r)) :: st, h) Q) : zEx scr d m (pc, ls, .inr (.inr (some a)) :: st, h) Q := by
  subst hp; exact ex_go hd (Or.inr rfl) (fun _ => by simp only [zexec, hz, hs, zfv, if_pos hc, hv]; rfl) kk
theorem ex_putI {k a ci f n : Nat} {v : Int32} (hd : decode m.1 pc = .ok (.putfield k, 3)) (hz : zfld m.2.1 k = some (ci, f)) (hs : zsh h a = some (ci, n)) (hfi : zfin ci f = false ∨ (m.2.2.2.2.2 = true ∧ m.2.1 = ci)) (hc : (zft ci).getD f 9 = 0 ∨ ((zft ci).getD f 9 = 1 ∧ (v = 0 ∨ v = 1))) (hp : pc + 3 = pc') (kk : zEx scr d m (pc', ls, st, zsI h a f v) Q) : zEx scr d m (pc, ls, .inl v :: .inr (.inr (some a)) :: st, h) Q := by
  subst hp; exact ex_go hd (Or.inr rfl) (fun _ => by simp only [zexec, hz, hs]; rw [if_pos ⟨trivial, hfi⟩]; simp only [zput]; rw [if_pos hc]) kk
theorem ex_putR {k a ci f n : Nat} {v : Option Nat} (hd : decode m.1 pc = .ok (.putfield k, 3)) (hz : zfld m.2.1 k = some (ci, f)) (hs : zsh h a = some (ci, n)) (hfi : zfin ci f = false ∨ (m.2.2.2.2.2 = true ∧ m.2.1 = ci)) (hc : (zft ci).getD f 9 = 3) (hp : pc + 3 = pc') (kk : zEx scr d m (pc', ls, st, zsR h a f v) Q) : zEx scr d m (pc, ls, .inr (.inr v) :: .inr (.inr (some a)) :: st, h) Q := by
  subst hp; exact ex_go hd (Or.inr rfl) (fun _ => by simp only [zexec, hz, hs]; rw [if_pos ⟨trivial, hfi⟩]; simp only [zput]; rw [if_pos hc]) kk
theorem ex_iald {a n : Nat} {j v : Int32} (hd : decode m.1 pc = .ok (.iaload, 1)) (hs : zsh h a = some (14, n)) (hj : zin j n = true) (hv : h.2.1 a j.toNatClampNeg = v) (hp : pc + 1 = pc') (kk : zEx scr d m (pc', ls, .inl v :: st, h) Q) : zEx scr d m (pc, ls, .inl j :: .inr (.inr (some a)) :: st, h) Q := by
  subst hp; subst hv; exact ex_go hd (Or.inr rfl) (fun _ => by simp only [zexec, zld, hs, hj]; rfl) kk
theorem ex_sald {n : Nat} {xs : Nat → Int32} {j v : Int32} (hd : decode m.1 pc = .ok (.iaload, 1)) (hs : zsh h 1000000 = none) (hsc : scr = some (n, xs)) (hj : zin j n = true) (hv : xs j.toNatClampNeg = v) (hp : pc + 1 = pc') (kk : zEx scr d m (pc', ls, .inl v :: st, h) Q) : zEx scr d m (pc, ls, .inl j :: .inr (.inr (some 1000000)) :: st, h) Q := by
  subst hp; subst hv; subst hsc; exact ex_go hd (Or.inr rfl) (fun _ => by simp only [zexec, zld, hs, hj]; rfl) kk
theorem ex_bald {a n : Nat} {j v : Int32} (hd : decode m.1 pc = .ok (.baload, 1)) (hs : zsh h a = some (13, n)) (hj : zin j n = true) (hv : h.2.1 a j.toNatClampNeg = v) (hp : pc + 1 = pc') (kk : zEx scr d m (pc', ls, .inl v :: st, h) Q) : zEx scr d m (pc, ls, .inl j :: .inr (.inr (some a)) :: st, h) Q := by
  subst hp; subst hv; exact ex_go hd (Or.inr rfl) (fun _ => by simp only [zexec, zld, hs, hj]; rfl) kk
theorem ex_lald {a n : Nat} {j : Int32} {v : Int64} (hd : decode m.1 pc = .ok (.laload, 1)) (hs : zsh h a = some (15, n)) (hj : zin j n = true) (hv : h.2.2.1 a j.toNatClampNeg = v) (hp : pc + 1 = pc') (kk : zEx scr d m (pc', ls, .inr (.inl v) :: st, h) Q) : zEx scr d m (pc, ls, .inl j :: .inr (.inr (some a)) :: st, h) Q := by
  subst hp; subst hv; exact ex_go hd (Or.inr rfl) (fun _ => by simp only [zexec, hs]; rw [if_pos ⟨trivial, hj⟩]) kk
theorem ex_aald {a kd n r : Nat} {j : Int32} (hd : decode m.1 pc = .ok (.aaload, 1)) (hs : zsh h a = some (kd, n)) (hk : 16 ≤ kd ∧ kd ≤ 20) (hj : zin j n = true) (hv : h.2.2.2.1 a j.toNatClampNeg = some r) (hp : pc + 1 = pc') (kk : zEx scr d m (pc', ls, .inr (.inr (some r)) :: st, h) Q) : zEx scr d m (pc, ls, .inl j :: .inr (.inr (some a)) :: st, h) Q := by
  subst hp; exact ex_go hd (Or.inr rfl) (fun _ => by simp only [zexec, hs]; rw [if_pos ⟨hk.1, hk.2, hj⟩, hv]) kk
theorem ex_iast {a n : Nat} {j v : Int32} (hd : decode m.1 pc = .ok (.iastore, 1)) (hs : zsh h a = some (14, n)) (hj : zin j n = true) (hp : pc + 1 = pc') (kk : zEx scr d m (pc', ls, st, zsI h a j.toNatClampNeg v) Q) : zEx scr d m (pc, ls, .inl v :: .inl j :: .inr (.inr (some a)) :: st, h) Q := by
  subst hp; exact ex_go hd (Or.inr rfl) (fun _ => by simp only [zexec, zst, hs, hj]; rfl) kk
theorem ex_bast {a n : Nat} {j v : Int32} (hd : decode m.1 pc = .ok (.bastore, 1)) (hs : zsh h a = some (13, n)) (hj : zin j n = true) (hp : pc + 1 = pc') (kk : zEx scr d m (pc', ls, st, zsI h a j.toNatClampNeg (vp_nar .byte v)) Q) : zEx scr d m (pc, ls, .inl v :: .inl j :: .inr (.inr (some a)) :: st, h) Q := by
  subst hp; exact ex_go hd (Or.inr rfl) (fun _ => by simp only [zexec, zst, hs, hj]; rfl) kk
theorem ex_last {a n : Nat} {j : Int32} {v : Int64} (hd : decode m.1 pc = .ok (.lastore, 1)) (hs : zsh h a = some (15, n)) (hj : zin j n = true) (hp : pc + 1 = pc') (kk : zEx scr d m (pc', ls, st, zsL h a j.toNatClampNeg v) Q) : zEx scr d m (pc, ls, .inr (.inl v) :: .inl j :: .inr (.inr (some a)) :: st, h) Q := by
  subst hp; exact ex_go hd (Or.inr rfl) (fun _ => by simp only [zexec, hs]; rw [if_pos ⟨trivial, hj⟩]) kk
theorem ex_aast {a kd n v nv : Nat} {j : Int32} (hd : decode m.1 pc = .ok (.aastore, 1)) (hs : zsh h a = some (kd, n)) (hv : zsh h v = some (zrc kd, nv)) (hk : 16 ≤ kd ∧ kd ≤ 20) (hj : zin j n = true) (hp : pc + 1 = pc') (kk : zEx scr d m (pc', ls, st, zsR h a j.toNatClampNeg (some v)) Q) : zEx scr d m (pc, ls, .inr (.inr (some v)) :: .inl j :: .inr (.inr (some a)) :: st, h) Q := by
  subst hp; exact ex_go hd (Or.inr rfl) (fun _ => by simp only [zexec, hs, hv]; rw [if_pos ⟨hk.1, hk.2, hj, trivial⟩]) kk
theorem ex_alen {a kd n : Nat} {v : Int32} (hd : decode m.1 pc = .ok (.arraylength, 1)) (hs : zsh h a = some (kd, n)) (hk : 13 ≤ kd) (hv : Int32.ofNat n = v) (hp : pc + 1 = pc') (kk : zEx scr d m (pc', ls, .inl v :: st, h) Q) : zEx scr d m (pc, ls, .inr (.inr (some a)) :: st, h) Q := by
  subst hp; subst hv; exact ex_go hd (Or.inr rfl) (fun _ => by simp only [zexec, zlen, hs]; rw [if_pos hk]) kk
theorem ex_slen {n : Nat} {xs : Nat → Int32} {v : Int32} (hd : decode m.1 pc = .ok (.arraylength, 1)) (hs : zsh h 1000000 = none) (hsc : scr = some (n, xs)) (hv : Int32.ofNat n = v) (hp : pc + 1 = pc') (kk : zEx scr d m (pc', ls, .inl v :: st, h) Q) : zEx scr d m (pc, ls, .inr (.inr (some 1000000)) :: st, h) Q := by
  subst hp; subst hv; subst hsc; exact ex_go hd (Or.inr rfl) (fun _ => by simp only [zexec, zlen, hs]; rfl) kk
theorem ex_new {k ci : Nat} (hd : decode m.1 pc = .ok (.new k, 3)) (hz : zcls m.2.1 k = some ci) (hc : ci < 13) (h0 : h.2.2.2.2 = 0 ∧ h.1.1 < 900000) (hp : pc + 3 = pc') (kk : zEx scr d m (pc', ls, .inr (.inr (some h.1.1)) :: st, znew h ci (zft ci).length) Q) : zEx scr d m (pc, ls, st, h) Q := by
  subst hp; exact ex_go hd (Or.inr rfl) (fun _ => by simp only [zexec, hz]; rw [if_pos hc, if_pos h0]) kk
theorem ex_dup {v : zV} (hd : decode m.1 pc = .ok (.dup, 1)) (hc : zcat v = 1) (hp : pc + 1 = pc') (kk : zEx scr d m (pc', ls, v :: v :: st, h) Q) : zEx scr d m (pc, ls, v :: st, h) Q := by
  subst hp; exact ex_go hd (Or.inr rfl) (fun _ => by simp only [zexec]; rw [if_pos hc]) kk
theorem ex_dup2 {v w : zV} (hd : decode m.1 pc = .ok (.dup2, 1)) (hc : zcat v = 1 ∧ zcat w = 1) (hp : pc + 1 = pc') (kk : zEx scr d m (pc', ls, v :: w :: v :: w :: st, h) Q) : zEx scr d m (pc, ls, v :: w :: st, h) Q := by
  subst hp; exact ex_go hd (Or.inr rfl) (fun _ => by simp only [zexec]; rw [if_pos hc]) kk
theorem ex_pop {v : zV} (hd : decode m.1 pc = .ok (.pop, 1)) (hc : zcat v = 1) (hp : pc + 1 = pc') (kk : zEx scr d m (pc', ls, st, h) Q) : zEx scr d m (pc, ls, v :: st, h) Q := by
  subst hp; exact ex_go hd (Or.inr rfl) (fun _ => by simp only [zexec]; rw [if_pos hc]) kk
theorem ex_pop2 {v : zV} (hd : decode m.1 pc = .ok (.pop2, 1)) (hc : zcat v = 2) (hp : pc + 1 = pc') (kk : zEx scr d m (pc', ls, st, h) Q) : zEx scr d m (pc, ls, v :: st, h) Q := by
  subst hp; exact ex_go hd (Or.inr rfl) (fun _ => by simp only [zexec]; rw [if_pos hc]) kk
theorem ex_topi {x : Int32} (k : ∀ y : Int32, y = x → zEx scr d m (pc, ls, .inl y :: st, h) Q) : zEx scr d m (pc, ls, .inl x :: st, h) Q := k x rfl
theorem ex_hp (k : ∀ z : zH, z = h → zEx scr d m (pc, ls, st, z) Q) : zEx scr d m (pc, ls, st, h) Q := k h rfl
theorem ex_iret {x : Int32} {ty : FieldType} (hd : decode m.1 pc = .ok (.ireturn, 1)) (ht : m.2.2.2.1 = some ty) (hn : narrow ty (.int x) = .int x) (hq : Q (some (.inl x)) h) : zEx scr d m (pc, ls, [.inl x], h) Q :=
  ex_end hd (Or.inr rfl) (fun _ => by simp only [zexec, ht]; rw [if_pos hn]) hq
theorem ex_lret {x : Int64} (hd : decode m.1 pc = .ok (.lreturn, 1)) (ht : m.2.2.2.1 = some .long) (hq : Q (some (.inr (.inl x))) h) : zEx scr d m (pc, ls, [.inr (.inl x)], h) Q :=
  ex_end hd (Or.inr rfl) (fun _ => by simp only [zexec]; rw [if_pos ht]) hq
theorem ex_vret (hd : decode m.1 pc = .ok (.return_, 1)) (ht : m.2.2.2.1 = none) (hq : Q none h) : zEx scr d m (pc, ls, [], h) Q :=
  ex_end hd (Or.inr rfl) (fun _ => by simp only [zexec]; rw [if_pos ht]) hq
/-- calls: the arguments lie on the stack, the last on top -/
theorem ex_gets (hd : decode m.1 pc = .ok (.getstatic zgsk, 3)) (ho : m.2.1 = 6) (hp : pc + 3 = pc') (kk : zEx scr d m (pc', ls, .inr (.inr (some 1000001)) :: st, h) Q) : zEx scr d m (pc, ls, st, h) Q := by
  subst hp; exact ex_go hd (Or.inr rfl) (fun _ => by simp only [zexec]; rw [if_pos ⟨ho, trivial⟩]) kk
theorem ex_strlen {k na a : Nat} {bs : List Int32} (hd : decode m.1 pc = .ok (.invokevirtual k, 3)) (hz : zmth m.2.1 k = some (0, na, mJ0_length_8abf5)) (hs : zsc a = some bs) (hw : zwd st ≤ 8) (hp : pc + 3 = pc') (kk : zEx scr d m (pc', ls, .inl (nI bs.length) :: st, h) Q) : zEx scr d m (pc, ls, .inr (.inr (some a)) :: st, h) Q := by
  subst hp
  refine ex_go hd (Or.inr rfl) (fun _ => ?_) kk
  simp only [zexec, hz]
  rw [if_pos trivial, if_pos trivial]
  simp only [zstr, hs]
  rw [if_pos ⟨trivial, hw⟩]
theorem ex_strchar {k na a : Nat} {i : Int32} {bs : List Int32} (hd : decode m.1 pc = .ok (.invokevirtual k, 3)) (hz : zmth m.2.1 k = some (0, na, mJ0_charAt_5068e)) (hs : zsc a = some bs) (hw : zwd st ≤ 8) (hi : zin i bs.length = true) (hp : pc + 3 = pc') (kk : zEx scr d m (pc', ls, .inl (bs.getD i.toNatClampNeg 0) :: st, h) Q) : zEx scr d m (pc, ls, .inl i :: .inr (.inr (some a)) :: st, h) Q := by
  subst hp
  refine ex_go hd (Or.inr rfl) (fun _ => ?_) kk
  simp only [zexec, hz]
  rw [if_pos trivial, if_pos trivial]
  simp only [zstr, hs]
  rw [if_pos ⟨trivial, hw, hi⟩]
theorem ex_callv {k na a n : Nat} {cm : zM} {vs rest : List zV} {Qc : Option zV → zH → Prop} (hd : decode m.1 pc = .ok (.invokevirtual k, 3)) (hz : zmth m.2.1 k = some (0, na, cm)) (hst : na ≤ st.length ∧ zwd (st.drop na) ≤ 8) (hv : (st.take na).reverse = .inr (.inr (some a)) :: vs) (hr : st.drop na = rest) (hs : zsh h a = some (cm.2.1, n)) (hci : cm.2.1 < 13) (hw : zwd (.inr (.inr (some a)) :: vs) ≤ cm.2.2.1) (hp : pc + 3 = pc')
    (hc : zCt d cm (.inr (.inr (some a)) :: vs) h Qc) (kk : ∀ r h', Qc r h' → zEx scr (d + 1) m (pc', ls, r.toList ++ rest, h') Q) : zEx scr (d + 1) m (pc, ls, st, h) Q := by
  subst hp; subst hr
  refine ex_call hd (Or.inr rfl) (fun call r h' hq => ?_) hw hc kk
  simp only [zexec, hz]
  rw [if_pos trivial, if_neg (show ¬ cm.2.1 = 14 by omega)]
  unfold zcall
  rw [if_pos hst, if_neg (by decide), hv]
  simp only [hs]
  rw [if_pos ⟨trivial, hci⟩, hq]
theorem ex_calls {k kd na : Nat} {cm : zM} {vs rest : List zV} {Qc : Option zV → zH → Prop} (hd : decode m.1 pc = .ok (.invokestatic k, 3)) (hz : zmth m.2.1 k = some (kd, na, cm)) (hkd : kd = 1 ∨ kd = 3) (hst : na ≤ st.length ∧ zwd (st.drop na) ≤ 8) (hv : (st.take na).reverse = vs) (hr : st.drop na = rest) (hw : zwd vs ≤ cm.2.2.1) (hp : pc + 3 = pc')
    (hc : zCt d cm vs h Qc) (kk : ∀ r h', Qc r h' → zEx scr (d + 1) m (pc', ls, r.toList ++ rest, h') Q) : zEx scr (d + 1) m (pc, ls, st, h) Q := by
  subst hp; subst hr; subst hv
  refine ex_call hd (Or.inr rfl) (fun call r h' hq => ?_) hw hc kk
  simp only [zexec, hz]
  rw [if_pos hkd]
  unfold zcall
  rw [if_pos hst, if_pos hkd, hq]
theorem ex_calli {k kd na a n : Nat} {cm : zM} {vs rest : List zV} {Qc : Option zV → zH → Prop} (hd : decode m.1 pc = .ok (.invokespecial k, 3)) (hz : zmth m.2.1 k = some (kd, na, cm)) (hkd : kd = 2 ∨ kd = 4) (hst : na ≤ st.length ∧ zwd (st.drop na) ≤ 8) (hv : (st.take na).reverse = .inr (.inr (some a)) :: vs) (hr : st.drop na = rest) (hs : zsh h a = some (cm.2.1, n)) (hci : cm.2.1 < 13) (hw : zwd (.inr (.inr (some a)) :: vs) ≤ cm.2.2.1) (hp : pc + 3 = pc')
    (hc : zCt d cm (.inr (.inr (some a)) :: vs) h Qc) (kk : ∀ r h', Qc r h' → zEx scr (d + 1) m (pc', ls, r.toList ++ rest, h') Q) : zEx scr (d + 1) m (pc, ls, st, h) Q := by
  subst hp; subst hr
  refine ex_call hd (Or.inr rfl) (fun call r h' hq => ?_) hw hc kk
  simp only [zexec, hz]
  rw [if_pos hkd]
  unfold zcall
  rw [if_pos hst, if_neg (by rcases hkd with rfl | rfl <;> decide), hv]
  simp only [hs]
  rw [if_pos ⟨trivial, hci⟩, hq]
theorem ex_obj {k na a : Nat} {cm : zM} (hd : decode m.1 pc = .ok (.invokespecial k, 3)) (hz : zmth m.2.1 k = some (10, na, cm)) (hw : zwd st ≤ 8) (hp : pc + 3 = pc') (kk : zEx scr (d + 1) m (pc', ls, st, h) Q) : zEx scr (d + 1) m (pc, ls, .inr (.inr (some a)) :: st, h) Q := by
  subst hp
  refine ex_go hd (Or.inr rfl) (fun _ => ?_) kk
  simp only [zexec, hz]
  rw [if_neg (by decide), if_pos trivial]
  have e : decide (0 < d + 1) = true := by simp
  rw [e]
  unfold zprim
  rw [if_pos rfl, if_pos rfl]
  simp only
  rw [if_pos hw]
theorem ex_min {k na : Nat} {cm : zM} {x y v : Int32} (hd : decode m.1 pc = .ok (.invokestatic k, 3)) (hz : zmth m.2.1 k = some (12, na, cm)) (hw : zwd st ≤ 8) (hv : (if y < x then y else x) = v) (hp : pc + 3 = pc') (kk : zEx scr (d + 1) m (pc', ls, .inl v :: st, h) Q) : zEx scr (d + 1) m (pc, ls, .inl y :: .inl x :: st, h) Q := by
  subst hp; subst hv
  refine ex_go hd (Or.inr rfl) (fun _ => ?_) kk
  simp only [zexec, hz]
  rw [if_neg (by decide), if_neg (by decide), if_neg (by decide)]
  have e : decide (0 < d + 1) = true := by simp
  rw [e]
  unfold zprim
  rw [if_pos rfl, if_neg (by decide), if_neg (by decide), if_pos rfl]
  simp only
  rw [if_pos hw]
end ZX
end Pk8
section Pk9
/-! contracts by what comes back: an int, nothing, a long -/
def zCi (d : Nat) (m : zM) (vs : List zV) (h : zH) (Q : Int32 → zH → Prop) : Prop := zEx none d m (0, zargs 0 vs, [], h) (fun v h' => ∃ x, v = some (.inl x) ∧ Q x h')
def zCl (d : Nat) (m : zM) (vs : List zV) (h : zH) (Q : Int64 → zH → Prop) : Prop := zEx none d m (0, zargs 0 vs, [], h) (fun v h' => ∃ x, v = some (.inr (.inl x)) ∧ Q x h')
def zCv (d : Nat) (m : zM) (vs : List zV) (h : zH) (Q : zH → Prop) : Prop := zEx none d m (0, zargs 0 vs, [], h) (fun v h' => v = none ∧ Q h')
theorem zCi.mono {d : Nat} {m : zM} {vs : List zV} {h : zH} {Q Q' : Int32 → zH → Prop} (k : zCi d m vs h Q) (hq : ∀ x h', Q x h' → Q' x h') : zCi d m vs h Q' := zEx.mono k (fun v h' ⟨x, e, q⟩ => ⟨x, e, hq x h' q⟩)
section ZX2
variable {scr : Option (Nat × (Nat → Int32))} {d : Nat} {m : zM} {pc pc' len : Nat} {ls : zL} {st : List zV} {h : zH} {Q : Option zV → zH → Prop} {i : Instr}
theorem ex_callvI {k na a n : Nat} {cm : zM} {vs rest : List zV} {Qc : Int32 → zH → Prop} (hd : decode m.1 pc = .ok (.invokevirtual k, 3)) (hz : zmth m.2.1 k = some (0, na, cm)) (hst : na ≤ st.length ∧ zwd (st.drop na) ≤ 8) (hv : (st.take na).reverse = .inr (.inr (some a)) :: vs) (hr : st.drop na = rest) (hs : zsh h a = some (cm.2.1, n)) (hci : cm.2.1 < 13) (hw : zwd (.inr (.inr (some a)) :: vs) ≤ cm.2.2.1) (hp : pc + 3 = pc')
    (hc : zCi d cm (.inr (.inr (some a)) :: vs) h Qc) (kk : ∀ x h', Qc x h' → zEx scr (d + 1) m (pc', ls, .inl x :: rest, h') Q) : zEx scr (d + 1) m (pc, ls, st, h) Q :=
  ex_callv hd hz hst hv hr hs hci hw hp hc (fun r h' ⟨x, e, q⟩ => by subst e; exact kk x h' q)
theorem ex_callvL {k na a n : Nat} {cm : zM} {vs rest : List zV} {Qc : Int64 → zH → Prop} (hd : decode m.1 pc = .ok (.invokevirtual k, 3)) (hz : zmth m.2.1 k = some (0, na, cm)) (hst : na ≤ st.length ∧ zwd (st.drop na) ≤ 8) (hv : (st.take na).reverse = .inr (.inr (some a)) :: vs) (hr : st.drop na = rest) (hs : zsh h a = some (cm.2.1, n)) (hci : cm.2.1 < 13) (hw : zwd (.inr (.inr (some a)) :: vs) ≤ cm.2.2.1) (hp : pc + 3 = pc')
    (hc : zCl d cm (.inr (.inr (some a)) :: vs) h Qc) (kk : ∀ x h', Qc x h' → zEx scr (d + 1) m (pc', ls, .inr (.inl x) :: rest, h') Q) : zEx scr (d + 1) m (pc, ls, st, h) Q :=
  ex_callv hd hz hst hv hr hs hci hw hp hc (fun r h' ⟨x, e, q⟩ => by subst e; exact kk x h' q)
theorem ex_callvV {k na a n : Nat} {cm : zM} {vs rest : List zV} {Qc : zH → Prop} (hd : decode m.1 pc = .ok (.invokevirtual k, 3)) (hz : zmth m.2.1 k = some (0, na, cm)) (hst : na ≤ st.length ∧ zwd (st.drop na) ≤ 8) (hv : (st.take na).reverse = .inr (.inr (some a)) :: vs) (hr : st.drop na = rest) (hs : zsh h a = some (cm.2.1, n)) (hci : cm.2.1 < 13) (hw : zwd (.inr (.inr (some a)) :: vs) ≤ cm.2.2.1) (hp : pc + 3 = pc')
    (hc : zCv d cm (.inr (.inr (some a)) :: vs) h Qc) (kk : ∀ h', Qc h' → zEx scr (d + 1) m (pc', ls, rest, h') Q) : zEx scr (d + 1) m (pc, ls, st, h) Q :=
  ex_callv hd hz hst hv hr hs hci hw hp hc (fun r h' ⟨e, q⟩ => by subst e; exact kk h' q)
theorem ex_callsI {k kd na : Nat} {cm : zM} {vs rest : List zV} {Qc : Int32 → zH → Prop} (hd : decode m.1 pc = .ok (.invokestatic k, 3)) (hz : zmth m.2.1 k = some (kd, na, cm)) (hkd : kd = 1 ∨ kd = 3) (hst : na ≤ st.length ∧ zwd (st.drop na) ≤ 8) (hv : (st.take na).reverse = vs) (hr : st.drop na = rest) (hw : zwd vs ≤ cm.2.2.1) (hp : pc + 3 = pc')
    (hc : zCi d cm vs h Qc) (kk : ∀ x h', Qc x h' → zEx scr (d + 1) m (pc', ls, .inl x :: rest, h') Q) : zEx scr (d + 1) m (pc, ls, st, h) Q :=
  ex_calls hd hz hkd hst hv hr hw hp hc (fun r h' ⟨x, e, q⟩ => by subst e; exact kk x h' q)
theorem ex_callsL {k kd na : Nat} {cm : zM} {vs rest : List zV} {Qc : Int64 → zH → Prop} (hd : decode m.1 pc = .ok (.invokestatic k, 3)) (hz : zmth m.2.1 k = some (kd, na, cm)) (hkd : kd = 1 ∨ kd = 3) (hst : na ≤ st.length ∧ zwd (st.drop na) ≤ 8) (hv : (st.take na).reverse = vs) (hr : st.drop na = rest) (hw : zwd vs ≤ cm.2.2.1) (hp : pc + 3 = pc')
    (hc : zCl d cm vs h Qc) (kk : ∀ x h', Qc x h' → zEx scr (d + 1) m (pc', ls, .inr (.inl x) :: rest, h') Q) : zEx scr (d + 1) m (pc, ls, st, h) Q :=
  ex_calls hd hz hkd hst hv hr hw hp hc (fun r h' ⟨x, e, q⟩ => by subst e; exact kk x h' q)
theorem ex_callsV {k kd na : Nat} {cm : zM} {vs rest : List zV} {Qc : zH → Prop} (hd : decode m.1 pc = .ok (.invokestatic k, 3)) (hz : zmth m.2.1 k = some (kd, na, cm)) (hkd : kd = 1 ∨ kd = 3) (hst : na ≤ st.length ∧ zwd (st.drop na) ≤ 8) (hv : (st.take na).reverse = vs) (hr : st.drop na = rest) (hw : zwd vs ≤ cm.2.2.1) (hp : pc + 3 = pc')
    (hc : zCv d cm vs h Qc) (kk : ∀ h', Qc h' → zEx scr (d + 1) m (pc', ls, rest, h') Q) : zEx scr (d + 1) m (pc, ls, st, h) Q :=
  ex_calls hd hz hkd hst hv hr hw hp hc (fun r h' ⟨e, q⟩ => by subst e; exact kk h' q)
theorem ex_calliV {k kd na a n : Nat} {cm : zM} {vs rest : List zV} {Qc : zH → Prop} (hd : decode m.1 pc = .ok (.invokespecial k, 3)) (hz : zmth m.2.1 k = some (kd, na, cm)) (hkd : kd = 2 ∨ kd = 4) (hst : na ≤ st.length ∧ zwd (st.drop na) ≤ 8) (hv : (st.take na).reverse = .inr (.inr (some a)) :: vs) (hr : st.drop na = rest) (hs : zsh h a = some (cm.2.1, n)) (hci : cm.2.1 < 13) (hw : zwd (.inr (.inr (some a)) :: vs) ≤ cm.2.2.1) (hp : pc + 3 = pc')
    (hc : zCv d cm (.inr (.inr (some a)) :: vs) h Qc) (kk : ∀ h', Qc h' → zEx scr (d + 1) m (pc', ls, rest, h') Q) : zEx scr (d + 1) m (pc, ls, st, h) Q :=
  ex_calli hd hz hkd hst hv hr hs hci hw hp hc (fun r h' ⟨e, q⟩ => by subst e; exact kk h' q)
theorem ex_iretI {x : Int32} {ty : FieldType} {Qi : Int32 → zH → Prop} (hd : decode m.1 pc = .ok (.ireturn, 1)) (ht : m.2.2.2.1 = some ty) (hn : narrow ty (.int x) = .int x) (hq : Qi x h) : zEx scr d m (pc, ls, [.inl x], h) (fun v h' => ∃ x, v = some (.inl x) ∧ Qi x h') :=
  ex_iret hd ht hn ⟨x, rfl, hq⟩
theorem ex_lretL {x : Int64} {Qi : Int64 → zH → Prop} (hd : decode m.1 pc = .ok (.lreturn, 1)) (ht : m.2.2.2.1 = some .long) (hq : Qi x h) : zEx scr d m (pc, ls, [.inr (.inl x)], h) (fun v h' => ∃ x, v = some (.inr (.inl x)) ∧ Qi x h') :=
  ex_lret hd ht ⟨x, rfl, hq⟩
theorem ex_vretV {Qv : zH → Prop} (hd : decode m.1 pc = .ok (.return_, 1)) (ht : m.2.2.2.1 = none) (hq : Qv h) : zEx scr d m (pc, ls, [], h) (fun v h' => v = none ∧ Qv h') :=
  ex_vret hd ht ⟨rfl, hq⟩
theorem ex_narrB {n : Int32} (hd : decode m.1 pc = .ok (.newarray .byte, 2)) (h0 : h.2.2.2.2 = 0 ∧ h.1.1 < 900000 ∧ ¬ n < 0 ∧ n.toNatClampNeg ≤ 100000) (hp : pc + 2 = pc') (kk : zEx scr d m (pc', ls, .inr (.inr (some h.1.1)) :: st, znew h 13 n.toNatClampNeg) Q) : zEx scr d m (pc, ls, .inl n :: st, h) Q := by
  subst hp; exact ex_go hd (Or.inr rfl) (fun _ => by simp only [zexec]; rw [if_pos h0]) kk
theorem ex_narrI {n : Int32} (hd : decode m.1 pc = .ok (.newarray .int, 2)) (h0 : h.2.2.2.2 = 0 ∧ h.1.1 < 900000 ∧ ¬ n < 0 ∧ n.toNatClampNeg ≤ 100000) (hp : pc + 2 = pc') (kk : zEx scr d m (pc', ls, .inr (.inr (some h.1.1)) :: st, znew h 14 n.toNatClampNeg) Q) : zEx scr d m (pc, ls, .inl n :: st, h) Q := by
  subst hp; exact ex_go hd (Or.inr rfl) (fun _ => by simp only [zexec]; rw [if_pos h0]) kk
theorem ex_narrL {n : Int32} (hd : decode m.1 pc = .ok (.newarray .long, 2)) (h0 : h.2.2.2.2 = 0 ∧ h.1.1 < 900000 ∧ ¬ n < 0 ∧ n.toNatClampNeg ≤ 100000) (hp : pc + 2 = pc') (kk : zEx scr d m (pc', ls, .inr (.inr (some h.1.1)) :: st, znew h 15 n.toNatClampNeg) Q) : zEx scr d m (pc, ls, .inl n :: st, h) Q := by
  subst hp; exact ex_go hd (Or.inr rfl) (fun _ => by simp only [zexec]; rw [if_pos h0]) kk
theorem ex_anarr {k ci : Nat} {n : Int32} (hd : decode m.1 pc = .ok (.anewarray k, 3)) (hz : zcls m.2.1 k = some ci) (hc : 16 ≤ zak ci ∧ zak ci ≤ 20) (h0 : h.2.2.2.2 = 0 ∧ h.1.1 < 900000 ∧ ¬ n < 0 ∧ n.toNatClampNeg ≤ 100000) (hp : pc + 3 = pc') (kk : zEx scr d m (pc', ls, .inr (.inr (some h.1.1)) :: st, znew h (zak ci) n.toNatClampNeg) Q) : zEx scr d m (pc, ls, .inl n :: st, h) Q := by
  subst hp; exact ex_go hd (Or.inr rfl) (fun _ => by simp only [zexec, hz]; rw [if_pos h0, if_pos hc]) kk
/-! the same on heaps that have a name -/
theorem en_new {k ci a nf : Nat} {h2 : zH} (hd : decode m.1 pc = .ok (.new k, 3)) (hz : zcls m.2.1 k = some ci) (hc : ci < 13 ∧ h.2.2.2.2 = 0 ∧ h.1.1 = a ∧ a < 900000 ∧ (zft ci).length = nf) (he : znew h ci nf = h2) (hp : pc + 3 = pc') (kk : zEx scr d m (pc', ls, .inr (.inr (some a)) :: st, h2) Q) : zEx scr d m (pc, ls, st, h) Q := by
  obtain ⟨c1, c2, c3, c4, c5⟩ := hc
  subst c5; subst he; subst c3
  exact ex_new hd hz c1 ⟨c2, c4⟩ hp kk
theorem en_narrB {n : Int32} {a nn : Nat} {h2 : zH} (hd : decode m.1 pc = .ok (.newarray .byte, 2)) (hc : h.2.2.2.2 = 0 ∧ h.1.1 = a ∧ a < 900000 ∧ ¬ n < 0 ∧ n.toNatClampNeg = nn ∧ nn ≤ 100000) (he : znew h 13 nn = h2) (hp : pc + 2 = pc') (kk : zEx scr d m (pc', ls, .inr (.inr (some a)) :: st, h2) Q) : zEx scr d m (pc, ls, .inl n :: st, h) Q := by
  obtain ⟨c2, c3, c4, c5, c6, c7⟩ := hc
  subst c6; subst he; subst c3
  exact ex_narrB hd ⟨c2, c4, c5, c7⟩ hp kk
theorem en_narrI {n : Int32} {a nn : Nat} {h2 : zH} (hd : decode m.1 pc = .ok (.newarray .int, 2)) (hc : h.2.2.2.2 = 0 ∧ h.1.1 = a ∧ a < 900000 ∧ ¬ n < 0 ∧ n.toNatClampNeg = nn ∧ nn ≤ 100000) (he : znew h 14 nn = h2) (hp : pc + 2 = pc') (kk : zEx scr d m (pc', ls, .inr (.inr (some a)) :: st, h2) Q) : zEx scr d m (pc, ls, .inl n :: st, h) Q := by
  obtain ⟨c2, c3, c4, c5, c6, c7⟩ := hc
  subst c6; subst he; subst c3
  exact ex_narrI hd ⟨c2, c4, c5, c7⟩ hp kk
theorem en_narrL {n : Int32} {a nn : Nat} {h2 : zH} (hd : decode m.1 pc = .ok (.newarray .long, 2)) (hc : h.2.2.2.2 = 0 ∧ h.1.1 = a ∧ a < 900000 ∧ ¬ n < 0 ∧ n.toNatClampNeg = nn ∧ nn ≤ 100000) (he : znew h 15 nn = h2) (hp : pc + 2 = pc') (kk : zEx scr d m (pc', ls, .inr (.inr (some a)) :: st, h2) Q) : zEx scr d m (pc, ls, .inl n :: st, h) Q := by
  obtain ⟨c2, c3, c4, c5, c6, c7⟩ := hc
  subst c6; subst he; subst c3
  exact ex_narrL hd ⟨c2, c4, c5, c7⟩ hp kk
theorem en_anarr {k ci ak : Nat} {n : Int32} {a nn : Nat} {h2 : zH} (hd : decode m.1 pc = .ok (.anewarray k, 3)) (hz : zcls m.2.1 k = some ci) (hc : h.2.2.2.2 = 0 ∧ h.1.1 = a ∧ a < 900000 ∧ ¬ n < 0 ∧ n.toNatClampNeg = nn ∧ nn ≤ 100000 ∧ zak ci = ak ∧ 16 ≤ ak ∧ ak ≤ 20) (he : znew h ak nn = h2) (hp : pc + 3 = pc') (kk : zEx scr d m (pc', ls, .inr (.inr (some a)) :: st, h2) Q) : zEx scr d m (pc, ls, .inl n :: st, h) Q := by
  obtain ⟨c2, c3, c4, c5, c6, c7, c8, c9, c10⟩ := hc
  subst c8; subst c6; subst he; subst c3
  exact ex_anarr hd hz ⟨c9, c10⟩ ⟨c2, c4, c5, c7⟩ hp kk
theorem en_putI {k a ci f n : Nat} {v : Int32} {h2 : zH} (hd : decode m.1 pc = .ok (.putfield k, 3)) (hz : zfld m.2.1 k = some (ci, f)) (hs : zsh h a = some (ci, n)) (hfi : zfin ci f = false ∨ (m.2.2.2.2.2 = true ∧ m.2.1 = ci)) (hc : (zft ci).getD f 9 = 0 ∨ ((zft ci).getD f 9 = 1 ∧ (v = 0 ∨ v = 1))) (he : zsI h a f v = h2) (hp : pc + 3 = pc') (kk : zEx scr d m (pc', ls, st, h2) Q) : zEx scr d m (pc, ls, .inl v :: .inr (.inr (some a)) :: st, h) Q := by
  subst he; exact ex_putI hd hz hs hfi hc hp kk
theorem en_putR {k a ci f n v : Nat} {h2 : zH} (hd : decode m.1 pc = .ok (.putfield k, 3)) (hz : zfld m.2.1 k = some (ci, f)) (hs : zsh h a = some (ci, n)) (hfi : zfin ci f = false ∨ (m.2.2.2.2.2 = true ∧ m.2.1 = ci)) (hc : (zft ci).getD f 9 = 3) (he : zsR h a f (some v) = h2) (hp : pc + 3 = pc') (kk : zEx scr d m (pc', ls, st, h2) Q) : zEx scr d m (pc, ls, .inr (.inr (some v)) :: .inr (.inr (some a)) :: st, h) Q := by
  subst he; exact ex_putR hd hz hs hfi hc hp kk
theorem en_aast {a kd n v nv jj : Nat} {j : Int32} {h2 : zH} (hd : decode m.1 pc = .ok (.aastore, 1)) (hs : zsh h a = some (kd, n)) (hv : zsh h v = some (zrc kd, nv)) (hk : 16 ≤ kd ∧ kd ≤ 20) (hj : zin j n = true ∧ j.toNatClampNeg = jj) (he : zsR h a jj (some v) = h2) (hp : pc + 1 = pc') (kk : zEx scr d m (pc', ls, st, h2) Q) : zEx scr d m (pc, ls, .inr (.inr (some v)) :: .inl j :: .inr (.inr (some a)) :: st, h) Q := by
  obtain ⟨j1, j2⟩ := hj
  subst j2; subst he; exact ex_aast hd hs hv hk j1 hp kk
theorem en_iast {a n jj : Nat} {j v : Int32} {h2 : zH} (hd : decode m.1 pc = .ok (.iastore, 1)) (hs : zsh h a = some (14, n)) (hj : zin j n = true ∧ j.toNatClampNeg = jj) (he : zsI h a jj v = h2) (hp : pc + 1 = pc') (kk : zEx scr d m (pc', ls, st, h2) Q) : zEx scr d m (pc, ls, .inl v :: .inl j :: .inr (.inr (some a)) :: st, h) Q := by
  obtain ⟨j1, j2⟩ := hj
  subst j2; subst he; exact ex_iast hd hs j1 hp kk
theorem en_calliV {k kd na a n : Nat} {cm : zM} {vs rest : List zV} {h2 : zH} (hd : decode m.1 pc = .ok (.invokespecial k, 3)) (hz : zmth m.2.1 k = some (kd, na, cm)) (hkd : kd = 2 ∨ kd = 4) (hst : na ≤ st.length ∧ zwd (st.drop na) ≤ 8) (hv : (st.take na).reverse = .inr (.inr (some a)) :: vs) (hr : st.drop na = rest) (hs : zsh h a = some (cm.2.1, n)) (hci : cm.2.1 < 13) (hw : zwd (.inr (.inr (some a)) :: vs) ≤ cm.2.2.1) (hp : pc + 3 = pc')
    (hc : zCv d cm (.inr (.inr (some a)) :: vs) h (fun h' => h' = h2)) (kk : zEx scr (d + 1) m (pc', ls, rest, h2) Q) : zEx scr (d + 1) m (pc, ls, st, h) Q :=
  ex_calliV hd hz hkd hst hv hr hs hci hw hp hc (fun h' e => by subst e; exact kk)
end ZX2
/-! what one comparison says of another of the same two -/
theorem zk_neg (x y : Int32) : (zcond .ne x y = !zcond .eq x y) ∧ (zcond .ge x y = !zcond .lt x y) ∧ (zcond .le x y = !zcond .gt x y) := by
  refine ⟨?_, ?_, ?_⟩
  · simp only [zcond]; by_cases h : x = y <;> simp [h]
  · simp only [zcond]
    by_cases h : x < y
    · simp [h, Int32.not_le.mpr h]
    · simp [h, Int32.not_lt.mp h]
  · simp only [zcond]
    by_cases h : y < x
    · simp [h, Int32.not_le.mpr h]
    · simp [h, Int32.not_lt.mp h]
theorem zk_lt_ge {x y : Int32} {b : Bool} (h : zcond .lt x y = b) : zcond .ge x y = !b := by rw [(zk_neg x y).2.1, h]
theorem zk_ge_lt {x y : Int32} {b : Bool} (h : zcond .ge x y = b) : zcond .lt x y = !b := by rw [(zk_neg x y).2.1] at h; rw [← h]; simp
theorem zk_gt_le {x y : Int32} {b : Bool} (h : zcond .gt x y = b) : zcond .le x y = !b := by rw [(zk_neg x y).2.2, h]
theorem zk_le_gt {x y : Int32} {b : Bool} (h : zcond .le x y = b) : zcond .gt x y = !b := by rw [(zk_neg x y).2.2] at h; rw [← h]; simp
theorem zk_eq_ne {x y : Int32} {b : Bool} (h : zcond .eq x y = b) : zcond .ne x y = !b := by rw [(zk_neg x y).1, h]
theorem zk_ne_eq {x y : Int32} {b : Bool} (h : zcond .ne x y = b) : zcond .eq x y = !b := by rw [(zk_neg x y).1] at h; rw [← h]; simp
theorem zk_lt_gt {x y : Int32} (h : zcond .lt x y = true) : zcond .gt x y = false := by
  simp only [zcond, decide_eq_true_eq, decide_eq_false_iff_not] at h ⊢
  exact Int32.not_lt.mpr (Int32.le_of_lt h)
theorem zk_gt_lt {x y : Int32} (h : zcond .gt x y = true) : zcond .lt x y = false := by
  simp only [zcond, decide_eq_true_eq, decide_eq_false_iff_not] at h ⊢
  exact Int32.not_lt.mpr (Int32.le_of_lt h)
theorem zsiI {h : zH} {a k b : Nat} {v : Int32} {q : Option (Nat × Nat)} (e : zsh h b = q) : zsh (zsI h a k v) b = q := e
theorem zsiR {h : zH} {a k b : Nat} {v : Option Nat} {q : Option (Nat × Nat)} (e : zsh h b = q) : zsh (zsR h a k v) b = q := e
theorem zi_lt {x y : Int32} (h : zcond .lt x y = true) : x.toInt < y.toInt := by
  simp only [zcond, decide_eq_true_eq] at h; exact Int32.lt_iff_toInt_lt.mp h
theorem zi_nlt {x y : Int32} (h : zcond .lt x y = false) : y.toInt ≤ x.toInt := by
  simp only [zcond, decide_eq_false_iff_not] at h; exact Int.not_lt.mp (fun q => h (Int32.lt_iff_toInt_lt.mpr q))
theorem zi_gt {x y : Int32} (h : zcond .gt x y = true) : y.toInt < x.toInt := by
  simp only [zcond, decide_eq_true_eq] at h; exact Int32.lt_iff_toInt_lt.mp h
theorem zi_ngt {x y : Int32} (h : zcond .gt x y = false) : x.toInt ≤ y.toInt := by
  simp only [zcond, decide_eq_false_iff_not] at h; exact Int.not_lt.mp (fun q => h (Int32.lt_iff_toInt_lt.mpr q))
theorem zj_lt {x y : Int32} (h : x.toInt < y.toInt) : zcond .lt x y = true := by
  simp only [zcond, decide_eq_true_eq]; exact Int32.lt_iff_toInt_lt.mpr h
theorem zj_nlt {x y : Int32} (h : y.toInt ≤ x.toInt) : zcond .lt x y = false := by
  simp only [zcond, decide_eq_false_iff_not]; exact fun q => absurd (Int32.lt_iff_toInt_lt.mp q) (Int.not_lt.mpr h)
theorem zj_gt {x y : Int32} (h : y.toInt < x.toInt) : zcond .gt x y = true := by
  simp only [zcond, decide_eq_true_eq]; exact Int32.lt_iff_toInt_lt.mpr h
theorem zj_ngt {x y : Int32} (h : x.toInt ≤ y.toInt) : zcond .gt x y = false := by
  simp only [zcond, decide_eq_false_iff_not]; exact fun q => absurd (Int32.lt_iff_toInt_lt.mp q) (Int.not_lt.mpr h)
theorem zj_ne {x y : Int32} (h : x.toInt ≠ y.toInt) : zcond .ne x y = true := by
  simp only [zcond]
  have : x ≠ y := fun e => h (by rw [e])
  simp [this]
end Pk9
section Pk10
/-! the heaps of the law's beginning, by program -/
def hh_0 : zH := ((0, (fun _ => (0, 0)), 0), (fun _ _ => 0), (fun _ _ => 0), (fun _ _ => none), 0)
def hh_1 : zH := ((1, (fun b => if b = 0 then (11, 16) else hh_0.1.2.1 b), 16), zrow hh_0.2.1 0 (fun _ => 0), zrow hh_0.2.2.1 0 (fun _ => 0), zrow hh_0.2.2.2.1 0 (fun _ => none), 0)
def hh_2 : zH := ((2, (fun b => if b = 1 then (13, 1000) else hh_1.1.2.1 b), 1016), zrow hh_1.2.1 1 (fun _ => 0), zrow hh_1.2.2.1 1 (fun _ => 0), zrow hh_1.2.2.2.1 1 (fun _ => none), 0)
def hh_3 : zH := ((2, hh_2.1.2.1, 1016), hh_2.2.1, hh_2.2.2.1, zup hh_2.2.2.2.1 0 0 (some 1), 0)
def hh_4 : zH := ((2, hh_3.1.2.1, 1016), zup hh_3.2.1 0 1 0, hh_3.2.2.1, hh_3.2.2.2.1, 0)
def hh_5 : zH := ((2, hh_4.1.2.1, 1016), zup hh_4.2.1 0 2 0, hh_4.2.2.1, hh_4.2.2.2.1, 0)
def hh_6 : zH := ((3, (fun b => if b = 2 then (4, 15) else hh_5.1.2.1 b), 1031), zrow hh_5.2.1 2 (fun _ => 0), zrow hh_5.2.2.1 2 (fun _ => 0), zrow hh_5.2.2.2.1 2 (fun _ => none), 0)
def hh_7 : zH := ((4, (fun b => if b = 3 then (14, 7) else hh_6.1.2.1 b), 1038), zrow hh_6.2.1 3 (fun _ => 0), zrow hh_6.2.2.1 3 (fun _ => 0), zrow hh_6.2.2.2.1 3 (fun _ => none), 0)
def hh_8 : zH := ((4, hh_7.1.2.1, 1038), hh_7.2.1, hh_7.2.2.1, zup hh_7.2.2.2.1 2 9 (some 3), 0)
def hh_9 : zH := ((5, (fun b => if b = 4 then (14, 7) else hh_8.1.2.1 b), 1045), zrow hh_8.2.1 4 (fun _ => 0), zrow hh_8.2.2.1 4 (fun _ => 0), zrow hh_8.2.2.2.1 4 (fun _ => none), 0)
def hh_10 : zH := ((5, hh_9.1.2.1, 1045), hh_9.2.1, hh_9.2.2.1, zup hh_9.2.2.2.1 2 10 (some 4), 0)
def hh_11 : zH := ((6, (fun b => if b = 5 then (19, 12) else hh_10.1.2.1 b), 1057), zrow hh_10.2.1 5 (fun _ => 0), zrow hh_10.2.2.1 5 (fun _ => 0), zrow hh_10.2.2.2.1 5 (fun _ => none), 0)
def hh_12 : zH := ((6, hh_11.1.2.1, 1057), hh_11.2.1, hh_11.2.2.1, zup hh_11.2.2.2.1 2 11 (some 5), 0)
def hh_13 : zH := ((7, (fun b => if b = 6 then (20, 5) else hh_12.1.2.1 b), 1062), zrow hh_12.2.1 6 (fun _ => 0), zrow hh_12.2.2.1 6 (fun _ => 0), zrow hh_12.2.2.2.1 6 (fun _ => none), 0)
def hh_14 : zH := ((7, hh_13.1.2.1, 1062), hh_13.2.1, hh_13.2.2.1, zup hh_13.2.2.2.1 2 12 (some 6), 0)
def hh_15 : zH := ((8, (fun b => if b = 7 then (16, 8) else hh_14.1.2.1 b), 1070), zrow hh_14.2.1 7 (fun _ => 0), zrow hh_14.2.2.1 7 (fun _ => 0), zrow hh_14.2.2.2.1 7 (fun _ => none), 0)
def hh_16 : zH := ((8, hh_15.1.2.1, 1070), hh_15.2.1, hh_15.2.2.1, zup hh_15.2.2.2.1 2 13 (some 7), 0)
def hh_17 : zH := ((9, (fun b => if b = 8 then (18, 8) else hh_16.1.2.1 b), 1078), zrow hh_16.2.1 8 (fun _ => 0), zrow hh_16.2.2.1 8 (fun _ => 0), zrow hh_16.2.2.2.1 8 (fun _ => none), 0)
def hh_18 : zH := ((9, hh_17.1.2.1, 1078), hh_17.2.1, hh_17.2.2.1, zup hh_17.2.2.2.1 2 14 (some 8), 0)
def hh_19 : zH := ((10, (fun b => if b = 9 then (9, 4) else hh_18.1.2.1 b), 1082), zrow hh_18.2.1 9 (fun _ => 0), zrow hh_18.2.2.1 9 (fun _ => 0), zrow hh_18.2.2.2.1 9 (fun _ => none), 0)
def hh_20 : zH := ((10, hh_19.1.2.1, 1082), hh_19.2.1, hh_19.2.2.1, zup hh_19.2.2.2.1 5 0 (some 9), 0)
def hh_21 : zH := ((11, (fun b => if b = 10 then (9, 4) else hh_20.1.2.1 b), 1086), zrow hh_20.2.1 10 (fun _ => 0), zrow hh_20.2.2.1 10 (fun _ => 0), zrow hh_20.2.2.2.1 10 (fun _ => none), 0)
def hh_22 : zH := ((11, hh_21.1.2.1, 1086), hh_21.2.1, hh_21.2.2.1, zup hh_21.2.2.2.1 5 1 (some 10), 0)
def hh_23 : zH := ((12, (fun b => if b = 11 then (9, 4) else hh_22.1.2.1 b), 1090), zrow hh_22.2.1 11 (fun _ => 0), zrow hh_22.2.2.1 11 (fun _ => 0), zrow hh_22.2.2.2.1 11 (fun _ => none), 0)
def hh_24 : zH := ((12, hh_23.1.2.1, 1090), hh_23.2.1, hh_23.2.2.1, zup hh_23.2.2.2.1 5 2 (some 11), 0)
def hh_25 : zH := ((13, (fun b => if b = 12 then (9, 4) else hh_24.1.2.1 b), 1094), zrow hh_24.2.1 12 (fun _ => 0), zrow hh_24.2.2.1 12 (fun _ => 0), zrow hh_24.2.2.2.1 12 (fun _ => none), 0)
def hh_26 : zH := ((13, hh_25.1.2.1, 1094), hh_25.2.1, hh_25.2.2.1, zup hh_25.2.2.2.1 5 3 (some 12), 0)
def hh_27 : zH := ((14, (fun b => if b = 13 then (9, 4) else hh_26.1.2.1 b), 1098), zrow hh_26.2.1 13 (fun _ => 0), zrow hh_26.2.2.1 13 (fun _ => 0), zrow hh_26.2.2.2.1 13 (fun _ => none), 0)
def hh_28 : zH := ((14, hh_27.1.2.1, 1098), hh_27.2.1, hh_27.2.2.1, zup hh_27.2.2.2.1 5 4 (some 13), 0)
def hh_29 : zH := ((15, (fun b => if b = 14 then (9, 4) else hh_28.1.2.1 b), 1102), zrow hh_28.2.1 14 (fun _ => 0), zrow hh_28.2.2.1 14 (fun _ => 0), zrow hh_28.2.2.2.1 14 (fun _ => none), 0)
def hh_30 : zH := ((15, hh_29.1.2.1, 1102), hh_29.2.1, hh_29.2.2.1, zup hh_29.2.2.2.1 5 5 (some 14), 0)
def hh_31 : zH := ((16, (fun b => if b = 15 then (9, 4) else hh_30.1.2.1 b), 1106), zrow hh_30.2.1 15 (fun _ => 0), zrow hh_30.2.2.1 15 (fun _ => 0), zrow hh_30.2.2.2.1 15 (fun _ => none), 0)
def hh_32 : zH := ((16, hh_31.1.2.1, 1106), hh_31.2.1, hh_31.2.2.1, zup hh_31.2.2.2.1 5 6 (some 15), 0)
def hh_33 : zH := ((17, (fun b => if b = 16 then (9, 4) else hh_32.1.2.1 b), 1110), zrow hh_32.2.1 16 (fun _ => 0), zrow hh_32.2.2.1 16 (fun _ => 0), zrow hh_32.2.2.2.1 16 (fun _ => none), 0)
def hh_34 : zH := ((17, hh_33.1.2.1, 1110), hh_33.2.1, hh_33.2.2.1, zup hh_33.2.2.2.1 5 7 (some 16), 0)
def hh_35 : zH := ((18, (fun b => if b = 17 then (9, 4) else hh_34.1.2.1 b), 1114), zrow hh_34.2.1 17 (fun _ => 0), zrow hh_34.2.2.1 17 (fun _ => 0), zrow hh_34.2.2.2.1 17 (fun _ => none), 0)
def hh_36 : zH := ((18, hh_35.1.2.1, 1114), hh_35.2.1, hh_35.2.2.1, zup hh_35.2.2.2.1 5 8 (some 17), 0)
def hh_37 : zH := ((19, (fun b => if b = 18 then (9, 4) else hh_36.1.2.1 b), 1118), zrow hh_36.2.1 18 (fun _ => 0), zrow hh_36.2.2.1 18 (fun _ => 0), zrow hh_36.2.2.2.1 18 (fun _ => none), 0)
def hh_38 : zH := ((19, hh_37.1.2.1, 1118), hh_37.2.1, hh_37.2.2.1, zup hh_37.2.2.2.1 5 9 (some 18), 0)
def hh_39 : zH := ((20, (fun b => if b = 19 then (9, 4) else hh_38.1.2.1 b), 1122), zrow hh_38.2.1 19 (fun _ => 0), zrow hh_38.2.2.1 19 (fun _ => 0), zrow hh_38.2.2.2.1 19 (fun _ => none), 0)
def hh_40 : zH := ((20, hh_39.1.2.1, 1122), hh_39.2.1, hh_39.2.2.1, zup hh_39.2.2.2.1 5 10 (some 19), 0)
def hh_41 : zH := ((21, (fun b => if b = 20 then (9, 4) else hh_40.1.2.1 b), 1126), zrow hh_40.2.1 20 (fun _ => 0), zrow hh_40.2.2.1 20 (fun _ => 0), zrow hh_40.2.2.2.1 20 (fun _ => none), 0)
def hh_42 : zH := ((21, hh_41.1.2.1, 1126), hh_41.2.1, hh_41.2.2.1, zup hh_41.2.2.2.1 5 11 (some 20), 0)
def hh_43 : zH := ((22, (fun b => if b = 21 then (10, 4) else hh_42.1.2.1 b), 1130), zrow hh_42.2.1 21 (fun _ => 0), zrow hh_42.2.2.1 21 (fun _ => 0), zrow hh_42.2.2.2.1 21 (fun _ => none), 0)
def hh_44 : zH := ((22, hh_43.1.2.1, 1130), hh_43.2.1, hh_43.2.2.1, zup hh_43.2.2.2.1 6 0 (some 21), 0)
def hh_45 : zH := ((23, (fun b => if b = 22 then (10, 4) else hh_44.1.2.1 b), 1134), zrow hh_44.2.1 22 (fun _ => 0), zrow hh_44.2.2.1 22 (fun _ => 0), zrow hh_44.2.2.2.1 22 (fun _ => none), 0)
def hh_46 : zH := ((23, hh_45.1.2.1, 1134), hh_45.2.1, hh_45.2.2.1, zup hh_45.2.2.2.1 6 1 (some 22), 0)
def hh_47 : zH := ((24, (fun b => if b = 23 then (10, 4) else hh_46.1.2.1 b), 1138), zrow hh_46.2.1 23 (fun _ => 0), zrow hh_46.2.2.1 23 (fun _ => 0), zrow hh_46.2.2.2.1 23 (fun _ => none), 0)
def hh_48 : zH := ((24, hh_47.1.2.1, 1138), hh_47.2.1, hh_47.2.2.1, zup hh_47.2.2.2.1 6 2 (some 23), 0)
def hh_49 : zH := ((25, (fun b => if b = 24 then (10, 4) else hh_48.1.2.1 b), 1142), zrow hh_48.2.1 24 (fun _ => 0), zrow hh_48.2.2.1 24 (fun _ => 0), zrow hh_48.2.2.2.1 24 (fun _ => none), 0)
def hh_50 : zH := ((25, hh_49.1.2.1, 1142), hh_49.2.1, hh_49.2.2.1, zup hh_49.2.2.2.1 6 3 (some 24), 0)
def hh_51 : zH := ((26, (fun b => if b = 25 then (10, 4) else hh_50.1.2.1 b), 1146), zrow hh_50.2.1 25 (fun _ => 0), zrow hh_50.2.2.1 25 (fun _ => 0), zrow hh_50.2.2.2.1 25 (fun _ => none), 0)
def hh_52 : zH := ((26, hh_51.1.2.1, 1146), hh_51.2.1, hh_51.2.2.1, zup hh_51.2.2.2.1 6 4 (some 25), 0)
def hh_53 : zH := ((27, (fun b => if b = 26 then (0, 4) else hh_52.1.2.1 b), 1150), zrow hh_52.2.1 26 (fun _ => 0), zrow hh_52.2.2.1 26 (fun _ => 0), zrow hh_52.2.2.2.1 26 (fun _ => none), 0)
def hh_54 : zH := ((27, hh_53.1.2.1, 1150), hh_53.2.1, hh_53.2.2.1, zup hh_53.2.2.2.1 7 0 (some 26), 0)
def hh_55 : zH := ((28, (fun b => if b = 27 then (0, 4) else hh_54.1.2.1 b), 1154), zrow hh_54.2.1 27 (fun _ => 0), zrow hh_54.2.2.1 27 (fun _ => 0), zrow hh_54.2.2.2.1 27 (fun _ => none), 0)
def hh_56 : zH := ((28, hh_55.1.2.1, 1154), hh_55.2.1, hh_55.2.2.1, zup hh_55.2.2.2.1 7 1 (some 27), 0)
def hh_57 : zH := ((29, (fun b => if b = 28 then (0, 4) else hh_56.1.2.1 b), 1158), zrow hh_56.2.1 28 (fun _ => 0), zrow hh_56.2.2.1 28 (fun _ => 0), zrow hh_56.2.2.2.1 28 (fun _ => none), 0)
def hh_58 : zH := ((29, hh_57.1.2.1, 1158), hh_57.2.1, hh_57.2.2.1, zup hh_57.2.2.2.1 7 2 (some 28), 0)
def hh_59 : zH := ((30, (fun b => if b = 29 then (0, 4) else hh_58.1.2.1 b), 1162), zrow hh_58.2.1 29 (fun _ => 0), zrow hh_58.2.2.1 29 (fun _ => 0), zrow hh_58.2.2.2.1 29 (fun _ => none), 0)
def hh_60 : zH := ((30, hh_59.1.2.1, 1162), hh_59.2.1, hh_59.2.2.1, zup hh_59.2.2.2.1 7 3 (some 29), 0)
def hh_61 : zH := ((31, (fun b => if b = 30 then (0, 4) else hh_60.1.2.1 b), 1166), zrow hh_60.2.1 30 (fun _ => 0), zrow hh_60.2.2.1 30 (fun _ => 0), zrow hh_60.2.2.2.1 30 (fun _ => none), 0)
def hh_62 : zH := ((31, hh_61.1.2.1, 1166), hh_61.2.1, hh_61.2.2.1, zup hh_61.2.2.2.1 7 4 (some 30), 0)
def hh_63 : zH := ((32, (fun b => if b = 31 then (0, 4) else hh_62.1.2.1 b), 1170), zrow hh_62.2.1 31 (fun _ => 0), zrow hh_62.2.2.1 31 (fun _ => 0), zrow hh_62.2.2.2.1 31 (fun _ => none), 0)
def hh_64 : zH := ((32, hh_63.1.2.1, 1170), hh_63.2.1, hh_63.2.2.1, zup hh_63.2.2.2.1 7 5 (some 31), 0)
def hh_65 : zH := ((33, (fun b => if b = 32 then (0, 4) else hh_64.1.2.1 b), 1174), zrow hh_64.2.1 32 (fun _ => 0), zrow hh_64.2.2.1 32 (fun _ => 0), zrow hh_64.2.2.2.1 32 (fun _ => none), 0)
def hh_66 : zH := ((33, hh_65.1.2.1, 1174), hh_65.2.1, hh_65.2.2.1, zup hh_65.2.2.2.1 7 6 (some 32), 0)
def hh_67 : zH := ((34, (fun b => if b = 33 then (0, 4) else hh_66.1.2.1 b), 1178), zrow hh_66.2.1 33 (fun _ => 0), zrow hh_66.2.2.1 33 (fun _ => 0), zrow hh_66.2.2.2.1 33 (fun _ => none), 0)
def hh_68 : zH := ((34, hh_67.1.2.1, 1178), hh_67.2.1, hh_67.2.2.1, zup hh_67.2.2.2.1 7 7 (some 33), 0)
def hh_69 : zH := ((35, (fun b => if b = 34 then (8, 3) else hh_68.1.2.1 b), 1181), zrow hh_68.2.1 34 (fun _ => 0), zrow hh_68.2.2.1 34 (fun _ => 0), zrow hh_68.2.2.2.1 34 (fun _ => none), 0)
def hh_70 : zH := ((35, hh_69.1.2.1, 1181), hh_69.2.1, hh_69.2.2.1, zup hh_69.2.2.2.1 8 0 (some 34), 0)
def hh_71 : zH := ((36, (fun b => if b = 35 then (8, 3) else hh_70.1.2.1 b), 1184), zrow hh_70.2.1 35 (fun _ => 0), zrow hh_70.2.2.1 35 (fun _ => 0), zrow hh_70.2.2.2.1 35 (fun _ => none), 0)
def hh_72 : zH := ((36, hh_71.1.2.1, 1184), hh_71.2.1, hh_71.2.2.1, zup hh_71.2.2.2.1 8 1 (some 35), 0)
def hh_73 : zH := ((37, (fun b => if b = 36 then (8, 3) else hh_72.1.2.1 b), 1187), zrow hh_72.2.1 36 (fun _ => 0), zrow hh_72.2.2.1 36 (fun _ => 0), zrow hh_72.2.2.2.1 36 (fun _ => none), 0)
def hh_74 : zH := ((37, hh_73.1.2.1, 1187), hh_73.2.1, hh_73.2.2.1, zup hh_73.2.2.2.1 8 2 (some 36), 0)
def hh_75 : zH := ((38, (fun b => if b = 37 then (8, 3) else hh_74.1.2.1 b), 1190), zrow hh_74.2.1 37 (fun _ => 0), zrow hh_74.2.2.1 37 (fun _ => 0), zrow hh_74.2.2.2.1 37 (fun _ => none), 0)
def hh_76 : zH := ((38, hh_75.1.2.1, 1190), hh_75.2.1, hh_75.2.2.1, zup hh_75.2.2.2.1 8 3 (some 37), 0)
def hh_77 : zH := ((39, (fun b => if b = 38 then (8, 3) else hh_76.1.2.1 b), 1193), zrow hh_76.2.1 38 (fun _ => 0), zrow hh_76.2.2.1 38 (fun _ => 0), zrow hh_76.2.2.2.1 38 (fun _ => none), 0)
def hh_78 : zH := ((39, hh_77.1.2.1, 1193), hh_77.2.1, hh_77.2.2.1, zup hh_77.2.2.2.1 8 4 (some 38), 0)
def hh_79 : zH := ((40, (fun b => if b = 39 then (8, 3) else hh_78.1.2.1 b), 1196), zrow hh_78.2.1 39 (fun _ => 0), zrow hh_78.2.2.1 39 (fun _ => 0), zrow hh_78.2.2.2.1 39 (fun _ => none), 0)
def hh_80 : zH := ((40, hh_79.1.2.1, 1196), hh_79.2.1, hh_79.2.2.1, zup hh_79.2.2.2.1 8 5 (some 39), 0)
def hh_81 : zH := ((41, (fun b => if b = 40 then (8, 3) else hh_80.1.2.1 b), 1199), zrow hh_80.2.1 40 (fun _ => 0), zrow hh_80.2.2.1 40 (fun _ => 0), zrow hh_80.2.2.2.1 40 (fun _ => none), 0)
def hh_82 : zH := ((41, hh_81.1.2.1, 1199), hh_81.2.1, hh_81.2.2.1, zup hh_81.2.2.2.1 8 6 (some 40), 0)
def hh_83 : zH := ((42, (fun b => if b = 41 then (8, 3) else hh_82.1.2.1 b), 1202), zrow hh_82.2.1 41 (fun _ => 0), zrow hh_82.2.2.1 41 (fun _ => 0), zrow hh_82.2.2.2.1 41 (fun _ => none), 0)
def hh_84 : zH := ((42, hh_83.1.2.1, 1202), hh_83.2.1, hh_83.2.2.1, zup hh_83.2.2.2.1 8 7 (some 41), 0)
def hh_85 : zH := ((42, hh_84.1.2.1, 1202), hh_84.2.1, hh_84.2.2.1, zup hh_84.2.2.2.1 0 3 (some 2), 0)
def hh_86 : zH := ((43, (fun b => if b = 42 then (4, 15) else hh_85.1.2.1 b), 1217), zrow hh_85.2.1 42 (fun _ => 0), zrow hh_85.2.2.1 42 (fun _ => 0), zrow hh_85.2.2.2.1 42 (fun _ => none), 0)
def hh_87 : zH := ((44, (fun b => if b = 43 then (14, 7) else hh_86.1.2.1 b), 1224), zrow hh_86.2.1 43 (fun _ => 0), zrow hh_86.2.2.1 43 (fun _ => 0), zrow hh_86.2.2.2.1 43 (fun _ => none), 0)
def hh_88 : zH := ((44, hh_87.1.2.1, 1224), hh_87.2.1, hh_87.2.2.1, zup hh_87.2.2.2.1 42 9 (some 43), 0)
def hh_89 : zH := ((45, (fun b => if b = 44 then (14, 7) else hh_88.1.2.1 b), 1231), zrow hh_88.2.1 44 (fun _ => 0), zrow hh_88.2.2.1 44 (fun _ => 0), zrow hh_88.2.2.2.1 44 (fun _ => none), 0)
def hh_90 : zH := ((45, hh_89.1.2.1, 1231), hh_89.2.1, hh_89.2.2.1, zup hh_89.2.2.2.1 42 10 (some 44), 0)
def hh_91 : zH := ((46, (fun b => if b = 45 then (19, 12) else hh_90.1.2.1 b), 1243), zrow hh_90.2.1 45 (fun _ => 0), zrow hh_90.2.2.1 45 (fun _ => 0), zrow hh_90.2.2.2.1 45 (fun _ => none), 0)
def hh_92 : zH := ((46, hh_91.1.2.1, 1243), hh_91.2.1, hh_91.2.2.1, zup hh_91.2.2.2.1 42 11 (some 45), 0)
def hh_93 : zH := ((47, (fun b => if b = 46 then (20, 5) else hh_92.1.2.1 b), 1248), zrow hh_92.2.1 46 (fun _ => 0), zrow hh_92.2.2.1 46 (fun _ => 0), zrow hh_92.2.2.2.1 46 (fun _ => none), 0)
def hh_94 : zH := ((47, hh_93.1.2.1, 1248), hh_93.2.1, hh_93.2.2.1, zup hh_93.2.2.2.1 42 12 (some 46), 0)
def hh_95 : zH := ((48, (fun b => if b = 47 then (16, 8) else hh_94.1.2.1 b), 1256), zrow hh_94.2.1 47 (fun _ => 0), zrow hh_94.2.2.1 47 (fun _ => 0), zrow hh_94.2.2.2.1 47 (fun _ => none), 0)
def hh_96 : zH := ((48, hh_95.1.2.1, 1256), hh_95.2.1, hh_95.2.2.1, zup hh_95.2.2.2.1 42 13 (some 47), 0)
def hh_97 : zH := ((49, (fun b => if b = 48 then (18, 8) else hh_96.1.2.1 b), 1264), zrow hh_96.2.1 48 (fun _ => 0), zrow hh_96.2.2.1 48 (fun _ => 0), zrow hh_96.2.2.2.1 48 (fun _ => none), 0)
def hh_98 : zH := ((49, hh_97.1.2.1, 1264), hh_97.2.1, hh_97.2.2.1, zup hh_97.2.2.2.1 42 14 (some 48), 0)
def hh_99 : zH := ((50, (fun b => if b = 49 then (9, 4) else hh_98.1.2.1 b), 1268), zrow hh_98.2.1 49 (fun _ => 0), zrow hh_98.2.2.1 49 (fun _ => 0), zrow hh_98.2.2.2.1 49 (fun _ => none), 0)
def hh_100 : zH := ((50, hh_99.1.2.1, 1268), hh_99.2.1, hh_99.2.2.1, zup hh_99.2.2.2.1 45 0 (some 49), 0)
def hh_101 : zH := ((51, (fun b => if b = 50 then (9, 4) else hh_100.1.2.1 b), 1272), zrow hh_100.2.1 50 (fun _ => 0), zrow hh_100.2.2.1 50 (fun _ => 0), zrow hh_100.2.2.2.1 50 (fun _ => none), 0)
def hh_102 : zH := ((51, hh_101.1.2.1, 1272), hh_101.2.1, hh_101.2.2.1, zup hh_101.2.2.2.1 45 1 (some 50), 0)
def hh_103 : zH := ((52, (fun b => if b = 51 then (9, 4) else hh_102.1.2.1 b), 1276), zrow hh_102.2.1 51 (fun _ => 0), zrow hh_102.2.2.1 51 (fun _ => 0), zrow hh_102.2.2.2.1 51 (fun _ => none), 0)
def hh_104 : zH := ((52, hh_103.1.2.1, 1276), hh_103.2.1, hh_103.2.2.1, zup hh_103.2.2.2.1 45 2 (some 51), 0)
def hh_105 : zH := ((53, (fun b => if b = 52 then (9, 4) else hh_104.1.2.1 b), 1280), zrow hh_104.2.1 52 (fun _ => 0), zrow hh_104.2.2.1 52 (fun _ => 0), zrow hh_104.2.2.2.1 52 (fun _ => none), 0)
def hh_106 : zH := ((53, hh_105.1.2.1, 1280), hh_105.2.1, hh_105.2.2.1, zup hh_105.2.2.2.1 45 3 (some 52), 0)
def hh_107 : zH := ((54, (fun b => if b = 53 then (9, 4) else hh_106.1.2.1 b), 1284), zrow hh_106.2.1 53 (fun _ => 0), zrow hh_106.2.2.1 53 (fun _ => 0), zrow hh_106.2.2.2.1 53 (fun _ => none), 0)
def hh_108 : zH := ((54, hh_107.1.2.1, 1284), hh_107.2.1, hh_107.2.2.1, zup hh_107.2.2.2.1 45 4 (some 53), 0)
def hh_109 : zH := ((55, (fun b => if b = 54 then (9, 4) else hh_108.1.2.1 b), 1288), zrow hh_108.2.1 54 (fun _ => 0), zrow hh_108.2.2.1 54 (fun _ => 0), zrow hh_108.2.2.2.1 54 (fun _ => none), 0)
def hh_110 : zH := ((55, hh_109.1.2.1, 1288), hh_109.2.1, hh_109.2.2.1, zup hh_109.2.2.2.1 45 5 (some 54), 0)
def hh_111 : zH := ((56, (fun b => if b = 55 then (9, 4) else hh_110.1.2.1 b), 1292), zrow hh_110.2.1 55 (fun _ => 0), zrow hh_110.2.2.1 55 (fun _ => 0), zrow hh_110.2.2.2.1 55 (fun _ => none), 0)
def hh_112 : zH := ((56, hh_111.1.2.1, 1292), hh_111.2.1, hh_111.2.2.1, zup hh_111.2.2.2.1 45 6 (some 55), 0)
def hh_113 : zH := ((57, (fun b => if b = 56 then (9, 4) else hh_112.1.2.1 b), 1296), zrow hh_112.2.1 56 (fun _ => 0), zrow hh_112.2.2.1 56 (fun _ => 0), zrow hh_112.2.2.2.1 56 (fun _ => none), 0)
def hh_114 : zH := ((57, hh_113.1.2.1, 1296), hh_113.2.1, hh_113.2.2.1, zup hh_113.2.2.2.1 45 7 (some 56), 0)
def hh_115 : zH := ((58, (fun b => if b = 57 then (9, 4) else hh_114.1.2.1 b), 1300), zrow hh_114.2.1 57 (fun _ => 0), zrow hh_114.2.2.1 57 (fun _ => 0), zrow hh_114.2.2.2.1 57 (fun _ => none), 0)
def hh_116 : zH := ((58, hh_115.1.2.1, 1300), hh_115.2.1, hh_115.2.2.1, zup hh_115.2.2.2.1 45 8 (some 57), 0)
def hh_117 : zH := ((59, (fun b => if b = 58 then (9, 4) else hh_116.1.2.1 b), 1304), zrow hh_116.2.1 58 (fun _ => 0), zrow hh_116.2.2.1 58 (fun _ => 0), zrow hh_116.2.2.2.1 58 (fun _ => none), 0)
def hh_118 : zH := ((59, hh_117.1.2.1, 1304), hh_117.2.1, hh_117.2.2.1, zup hh_117.2.2.2.1 45 9 (some 58), 0)
def hh_119 : zH := ((60, (fun b => if b = 59 then (9, 4) else hh_118.1.2.1 b), 1308), zrow hh_118.2.1 59 (fun _ => 0), zrow hh_118.2.2.1 59 (fun _ => 0), zrow hh_118.2.2.2.1 59 (fun _ => none), 0)
def hh_120 : zH := ((60, hh_119.1.2.1, 1308), hh_119.2.1, hh_119.2.2.1, zup hh_119.2.2.2.1 45 10 (some 59), 0)
def hh_121 : zH := ((61, (fun b => if b = 60 then (9, 4) else hh_120.1.2.1 b), 1312), zrow hh_120.2.1 60 (fun _ => 0), zrow hh_120.2.2.1 60 (fun _ => 0), zrow hh_120.2.2.2.1 60 (fun _ => none), 0)
def hh_122 : zH := ((61, hh_121.1.2.1, 1312), hh_121.2.1, hh_121.2.2.1, zup hh_121.2.2.2.1 45 11 (some 60), 0)
def hh_123 : zH := ((62, (fun b => if b = 61 then (10, 4) else hh_122.1.2.1 b), 1316), zrow hh_122.2.1 61 (fun _ => 0), zrow hh_122.2.2.1 61 (fun _ => 0), zrow hh_122.2.2.2.1 61 (fun _ => none), 0)
def hh_124 : zH := ((62, hh_123.1.2.1, 1316), hh_123.2.1, hh_123.2.2.1, zup hh_123.2.2.2.1 46 0 (some 61), 0)
def hh_125 : zH := ((63, (fun b => if b = 62 then (10, 4) else hh_124.1.2.1 b), 1320), zrow hh_124.2.1 62 (fun _ => 0), zrow hh_124.2.2.1 62 (fun _ => 0), zrow hh_124.2.2.2.1 62 (fun _ => none), 0)
def hh_126 : zH := ((63, hh_125.1.2.1, 1320), hh_125.2.1, hh_125.2.2.1, zup hh_125.2.2.2.1 46 1 (some 62), 0)
def hh_127 : zH := ((64, (fun b => if b = 63 then (10, 4) else hh_126.1.2.1 b), 1324), zrow hh_126.2.1 63 (fun _ => 0), zrow hh_126.2.2.1 63 (fun _ => 0), zrow hh_126.2.2.2.1 63 (fun _ => none), 0)
def hh_128 : zH := ((64, hh_127.1.2.1, 1324), hh_127.2.1, hh_127.2.2.1, zup hh_127.2.2.2.1 46 2 (some 63), 0)
def hh_129 : zH := ((65, (fun b => if b = 64 then (10, 4) else hh_128.1.2.1 b), 1328), zrow hh_128.2.1 64 (fun _ => 0), zrow hh_128.2.2.1 64 (fun _ => 0), zrow hh_128.2.2.2.1 64 (fun _ => none), 0)
def hh_130 : zH := ((65, hh_129.1.2.1, 1328), hh_129.2.1, hh_129.2.2.1, zup hh_129.2.2.2.1 46 3 (some 64), 0)
def hh_131 : zH := ((66, (fun b => if b = 65 then (10, 4) else hh_130.1.2.1 b), 1332), zrow hh_130.2.1 65 (fun _ => 0), zrow hh_130.2.2.1 65 (fun _ => 0), zrow hh_130.2.2.2.1 65 (fun _ => none), 0)
def hh_132 : zH := ((66, hh_131.1.2.1, 1332), hh_131.2.1, hh_131.2.2.1, zup hh_131.2.2.2.1 46 4 (some 65), 0)
def hh_133 : zH := ((67, (fun b => if b = 66 then (0, 4) else hh_132.1.2.1 b), 1336), zrow hh_132.2.1 66 (fun _ => 0), zrow hh_132.2.2.1 66 (fun _ => 0), zrow hh_132.2.2.2.1 66 (fun _ => none), 0)
def hh_134 : zH := ((67, hh_133.1.2.1, 1336), hh_133.2.1, hh_133.2.2.1, zup hh_133.2.2.2.1 47 0 (some 66), 0)
def hh_135 : zH := ((68, (fun b => if b = 67 then (0, 4) else hh_134.1.2.1 b), 1340), zrow hh_134.2.1 67 (fun _ => 0), zrow hh_134.2.2.1 67 (fun _ => 0), zrow hh_134.2.2.2.1 67 (fun _ => none), 0)
def hh_136 : zH := ((68, hh_135.1.2.1, 1340), hh_135.2.1, hh_135.2.2.1, zup hh_135.2.2.2.1 47 1 (some 67), 0)
def hh_137 : zH := ((69, (fun b => if b = 68 then (0, 4) else hh_136.1.2.1 b), 1344), zrow hh_136.2.1 68 (fun _ => 0), zrow hh_136.2.2.1 68 (fun _ => 0), zrow hh_136.2.2.2.1 68 (fun _ => none), 0)
def hh_138 : zH := ((69, hh_137.1.2.1, 1344), hh_137.2.1, hh_137.2.2.1, zup hh_137.2.2.2.1 47 2 (some 68), 0)
def hh_139 : zH := ((70, (fun b => if b = 69 then (0, 4) else hh_138.1.2.1 b), 1348), zrow hh_138.2.1 69 (fun _ => 0), zrow hh_138.2.2.1 69 (fun _ => 0), zrow hh_138.2.2.2.1 69 (fun _ => none), 0)
def hh_140 : zH := ((70, hh_139.1.2.1, 1348), hh_139.2.1, hh_139.2.2.1, zup hh_139.2.2.2.1 47 3 (some 69), 0)
def hh_141 : zH := ((71, (fun b => if b = 70 then (0, 4) else hh_140.1.2.1 b), 1352), zrow hh_140.2.1 70 (fun _ => 0), zrow hh_140.2.2.1 70 (fun _ => 0), zrow hh_140.2.2.2.1 70 (fun _ => none), 0)
def hh_142 : zH := ((71, hh_141.1.2.1, 1352), hh_141.2.1, hh_141.2.2.1, zup hh_141.2.2.2.1 47 4 (some 70), 0)
def hh_143 : zH := ((72, (fun b => if b = 71 then (0, 4) else hh_142.1.2.1 b), 1356), zrow hh_142.2.1 71 (fun _ => 0), zrow hh_142.2.2.1 71 (fun _ => 0), zrow hh_142.2.2.2.1 71 (fun _ => none), 0)
def hh_144 : zH := ((72, hh_143.1.2.1, 1356), hh_143.2.1, hh_143.2.2.1, zup hh_143.2.2.2.1 47 5 (some 71), 0)
def hh_145 : zH := ((73, (fun b => if b = 72 then (0, 4) else hh_144.1.2.1 b), 1360), zrow hh_144.2.1 72 (fun _ => 0), zrow hh_144.2.2.1 72 (fun _ => 0), zrow hh_144.2.2.2.1 72 (fun _ => none), 0)
def hh_146 : zH := ((73, hh_145.1.2.1, 1360), hh_145.2.1, hh_145.2.2.1, zup hh_145.2.2.2.1 47 6 (some 72), 0)
def hh_147 : zH := ((74, (fun b => if b = 73 then (0, 4) else hh_146.1.2.1 b), 1364), zrow hh_146.2.1 73 (fun _ => 0), zrow hh_146.2.2.1 73 (fun _ => 0), zrow hh_146.2.2.2.1 73 (fun _ => none), 0)
def hh_148 : zH := ((74, hh_147.1.2.1, 1364), hh_147.2.1, hh_147.2.2.1, zup hh_147.2.2.2.1 47 7 (some 73), 0)
def hh_149 : zH := ((75, (fun b => if b = 74 then (8, 3) else hh_148.1.2.1 b), 1367), zrow hh_148.2.1 74 (fun _ => 0), zrow hh_148.2.2.1 74 (fun _ => 0), zrow hh_148.2.2.2.1 74 (fun _ => none), 0)
def hh_150 : zH := ((75, hh_149.1.2.1, 1367), hh_149.2.1, hh_149.2.2.1, zup hh_149.2.2.2.1 48 0 (some 74), 0)
def hh_151 : zH := ((76, (fun b => if b = 75 then (8, 3) else hh_150.1.2.1 b), 1370), zrow hh_150.2.1 75 (fun _ => 0), zrow hh_150.2.2.1 75 (fun _ => 0), zrow hh_150.2.2.2.1 75 (fun _ => none), 0)
def hh_152 : zH := ((76, hh_151.1.2.1, 1370), hh_151.2.1, hh_151.2.2.1, zup hh_151.2.2.2.1 48 1 (some 75), 0)
def hh_153 : zH := ((77, (fun b => if b = 76 then (8, 3) else hh_152.1.2.1 b), 1373), zrow hh_152.2.1 76 (fun _ => 0), zrow hh_152.2.2.1 76 (fun _ => 0), zrow hh_152.2.2.2.1 76 (fun _ => none), 0)
def hh_154 : zH := ((77, hh_153.1.2.1, 1373), hh_153.2.1, hh_153.2.2.1, zup hh_153.2.2.2.1 48 2 (some 76), 0)
def hh_155 : zH := ((78, (fun b => if b = 77 then (8, 3) else hh_154.1.2.1 b), 1376), zrow hh_154.2.1 77 (fun _ => 0), zrow hh_154.2.2.1 77 (fun _ => 0), zrow hh_154.2.2.2.1 77 (fun _ => none), 0)
def hh_156 : zH := ((78, hh_155.1.2.1, 1376), hh_155.2.1, hh_155.2.2.1, zup hh_155.2.2.2.1 48 3 (some 77), 0)
def hh_157 : zH := ((79, (fun b => if b = 78 then (8, 3) else hh_156.1.2.1 b), 1379), zrow hh_156.2.1 78 (fun _ => 0), zrow hh_156.2.2.1 78 (fun _ => 0), zrow hh_156.2.2.2.1 78 (fun _ => none), 0)
def hh_158 : zH := ((79, hh_157.1.2.1, 1379), hh_157.2.1, hh_157.2.2.1, zup hh_157.2.2.2.1 48 4 (some 78), 0)
def hh_159 : zH := ((80, (fun b => if b = 79 then (8, 3) else hh_158.1.2.1 b), 1382), zrow hh_158.2.1 79 (fun _ => 0), zrow hh_158.2.2.1 79 (fun _ => 0), zrow hh_158.2.2.2.1 79 (fun _ => none), 0)
def hh_160 : zH := ((80, hh_159.1.2.1, 1382), hh_159.2.1, hh_159.2.2.1, zup hh_159.2.2.2.1 48 5 (some 79), 0)
def hh_161 : zH := ((81, (fun b => if b = 80 then (8, 3) else hh_160.1.2.1 b), 1385), zrow hh_160.2.1 80 (fun _ => 0), zrow hh_160.2.2.1 80 (fun _ => 0), zrow hh_160.2.2.2.1 80 (fun _ => none), 0)
def hh_162 : zH := ((81, hh_161.1.2.1, 1385), hh_161.2.1, hh_161.2.2.1, zup hh_161.2.2.2.1 48 6 (some 80), 0)
def hh_163 : zH := ((82, (fun b => if b = 81 then (8, 3) else hh_162.1.2.1 b), 1388), zrow hh_162.2.1 81 (fun _ => 0), zrow hh_162.2.2.1 81 (fun _ => 0), zrow hh_162.2.2.2.1 81 (fun _ => none), 0)
def hh_164 : zH := ((82, hh_163.1.2.1, 1388), hh_163.2.1, hh_163.2.2.1, zup hh_163.2.2.2.1 48 7 (some 81), 0)
def hh_165 : zH := ((82, hh_164.1.2.1, 1388), hh_164.2.1, hh_164.2.2.1, zup hh_164.2.2.2.1 0 4 (some 42), 0)
def hh_166 : zH := ((83, (fun b => if b = 82 then (5, 13) else hh_165.1.2.1 b), 1401), zrow hh_165.2.1 82 (fun _ => 0), zrow hh_165.2.2.1 82 (fun _ => 0), zrow hh_165.2.2.2.1 82 (fun _ => none), 0)
def hh_167 : zH := ((83, hh_166.1.2.1, 1401), zup hh_166.2.1 82 1 0, hh_166.2.2.1, hh_166.2.2.2.1, 0)
def hh_168 : zH := ((83, hh_167.1.2.1, 1401), zup hh_167.2.1 82 2 0, hh_167.2.2.1, hh_167.2.2.2.1, 0)
def hh_169 : zH := ((83, hh_168.1.2.1, 1401), zup hh_168.2.1 82 3 0, hh_168.2.2.1, hh_168.2.2.2.1, 0)
def hh_170 : zH := ((83, hh_169.1.2.1, 1401), zup hh_169.2.1 82 4 0, hh_169.2.2.1, hh_169.2.2.2.1, 0)
def hh_171 : zH := ((83, hh_170.1.2.1, 1401), zup hh_170.2.1 82 5 0, hh_170.2.2.1, hh_170.2.2.2.1, 0)
def hh_172 : zH := ((84, (fun b => if b = 83 then (15, 20) else hh_171.1.2.1 b), 1421), zrow hh_171.2.1 83 (fun _ => 0), zrow hh_171.2.2.1 83 (fun _ => 0), zrow hh_171.2.2.2.1 83 (fun _ => none), 0)
def hh_173 : zH := ((84, hh_172.1.2.1, 1421), hh_172.2.1, hh_172.2.2.1, zup hh_172.2.2.2.1 82 7 (some 83), 0)
def hh_174 : zH := ((85, (fun b => if b = 84 then (14, 20) else hh_173.1.2.1 b), 1441), zrow hh_173.2.1 84 (fun _ => 0), zrow hh_173.2.2.1 84 (fun _ => 0), zrow hh_173.2.2.2.1 84 (fun _ => none), 0)
def hh_175 : zH := ((85, hh_174.1.2.1, 1441), hh_174.2.1, hh_174.2.2.1, zup hh_174.2.2.2.1 82 8 (some 84), 0)
def hh_176 : zH := ((86, (fun b => if b = 85 then (14, 20) else hh_175.1.2.1 b), 1461), zrow hh_175.2.1 85 (fun _ => 0), zrow hh_175.2.2.1 85 (fun _ => 0), zrow hh_175.2.2.2.1 85 (fun _ => none), 0)
def hh_177 : zH := ((86, hh_176.1.2.1, 1461), hh_176.2.1, hh_176.2.2.1, zup hh_176.2.2.2.1 82 9 (some 85), 0)
def hh_178 : zH := ((86, hh_177.1.2.1, 1461), zup hh_177.2.1 82 10 0, hh_177.2.2.1, hh_177.2.2.2.1, 0)
def hh_179 : zH := ((86, hh_178.1.2.1, 1461), zup hh_178.2.1 82 11 0, hh_178.2.2.1, hh_178.2.2.2.1, 0)
def hh_180 : zH := ((86, hh_179.1.2.1, 1461), zup hh_179.2.1 82 12 (-1), hh_179.2.2.1, hh_179.2.2.2.1, 0)
def hh_181 : zH := ((86, hh_180.1.2.1, 1461), hh_180.2.1, hh_180.2.2.1, zup hh_180.2.2.2.1 82 0 (some 1), 0)
def hh_182 : zH := ((86, hh_181.1.2.1, 1461), hh_181.2.1, hh_181.2.2.1, zup hh_181.2.2.2.1 82 6 (some 42), 0)
def hh_183 : zH := ((86, hh_182.1.2.1, 1461), hh_182.2.1, hh_182.2.2.1, zup hh_182.2.2.2.1 0 5 (some 82), 0)
def hh_184 : zH := ((87, (fun b => if b = 86 then (2, 7) else hh_183.1.2.1 b), 1468), zrow hh_183.2.1 86 (fun _ => 0), zrow hh_183.2.2.1 86 (fun _ => 0), zrow hh_183.2.2.2.1 86 (fun _ => none), 0)
def hh_185 : zH := ((87, hh_184.1.2.1, 1468), zup hh_184.2.1 86 0 0, hh_184.2.2.1, hh_184.2.2.2.1, 0)
def hh_186 : zH := ((87, hh_185.1.2.1, 1468), zup hh_185.2.1 86 1 0, hh_185.2.2.1, hh_185.2.2.2.1, 0)
def hh_187 : zH := ((88, (fun b => if b = 87 then (14, 5) else hh_186.1.2.1 b), 1473), zrow hh_186.2.1 87 (fun _ => 0), zrow hh_186.2.2.1 87 (fun _ => 0), zrow hh_186.2.2.2.1 87 (fun _ => none), 0)
def hh_188 : zH := ((88, hh_187.1.2.1, 1473), hh_187.2.1, hh_187.2.2.1, zup hh_187.2.2.2.1 86 2 (some 87), 0)
def hh_189 : zH := ((89, (fun b => if b = 88 then (14, 5) else hh_188.1.2.1 b), 1478), zrow hh_188.2.1 88 (fun _ => 0), zrow hh_188.2.2.1 88 (fun _ => 0), zrow hh_188.2.2.2.1 88 (fun _ => none), 0)
def hh_190 : zH := ((89, hh_189.1.2.1, 1478), hh_189.2.1, hh_189.2.2.1, zup hh_189.2.2.2.1 86 3 (some 88), 0)
def hh_191 : zH := ((90, (fun b => if b = 89 then (14, 8) else hh_190.1.2.1 b), 1486), zrow hh_190.2.1 89 (fun _ => 0), zrow hh_190.2.2.1 89 (fun _ => 0), zrow hh_190.2.2.2.1 89 (fun _ => none), 0)
def hh_192 : zH := ((90, hh_191.1.2.1, 1486), hh_191.2.1, hh_191.2.2.1, zup hh_191.2.2.2.1 86 4 (some 89), 0)
def hh_193 : zH := ((91, (fun b => if b = 90 then (14, 8) else hh_192.1.2.1 b), 1494), zrow hh_192.2.1 90 (fun _ => 0), zrow hh_192.2.2.1 90 (fun _ => 0), zrow hh_192.2.2.2.1 90 (fun _ => none), 0)
def hh_194 : zH := ((91, hh_193.1.2.1, 1494), hh_193.2.1, hh_193.2.2.1, zup hh_193.2.2.2.1 86 5 (some 90), 0)
def hh_195 : zH := ((92, (fun b => if b = 91 then (14, 8) else hh_194.1.2.1 b), 1502), zrow hh_194.2.1 91 (fun _ => 0), zrow hh_194.2.2.1 91 (fun _ => 0), zrow hh_194.2.2.2.1 91 (fun _ => none), 0)
def hh_196 : zH := ((92, hh_195.1.2.1, 1502), hh_195.2.1, hh_195.2.2.1, zup hh_195.2.2.2.1 86 6 (some 91), 0)
def hh_197 : zH := ((92, hh_196.1.2.1, 1502), hh_196.2.1, hh_196.2.2.1, zup hh_196.2.2.2.1 0 6 (some 86), 0)
def hh_198 : zH := ((93, (fun b => if b = 92 then (7, 6) else hh_197.1.2.1 b), 1508), zrow hh_197.2.1 92 (fun _ => 0), zrow hh_197.2.2.1 92 (fun _ => 0), zrow hh_197.2.2.2.1 92 (fun _ => none), 0)
def hh_199 : zH := ((93, hh_198.1.2.1, 1508), zup hh_198.2.1 92 1 0, hh_198.2.2.1, hh_198.2.2.2.1, 0)
def hh_200 : zH := ((93, hh_199.1.2.1, 1508), zup hh_199.2.1 92 2 0, hh_199.2.2.1, hh_199.2.2.2.1, 0)
def hh_201 : zH := ((93, hh_200.1.2.1, 1508), zup hh_200.2.1 92 3 0, hh_200.2.2.1, hh_200.2.2.2.1, 0)
def hh_202 : zH := ((93, hh_201.1.2.1, 1508), zup hh_201.2.1 92 4 (-2), hh_201.2.2.1, hh_201.2.2.2.1, 0)
def hh_203 : zH := ((94, (fun b => if b = 93 then (14, 1031) else hh_202.1.2.1 b), 2539), zrow hh_202.2.1 93 (fun _ => 0), zrow hh_202.2.2.1 93 (fun _ => 0), zrow hh_202.2.2.2.1 93 (fun _ => none), 0)
def hh_204 : zH := ((94, hh_203.1.2.1, 2539), hh_203.2.1, hh_203.2.2.1, zup hh_203.2.2.2.1 92 5 (some 93), 0)
def hh_205 : zH := ((94, hh_204.1.2.1, 2539), hh_204.2.1, hh_204.2.2.1, zup hh_204.2.2.2.1 92 0 (some 2), 0)
def hh_206 : zH := ((94, hh_205.1.2.1, 2539), hh_205.2.1, hh_205.2.2.1, zup hh_205.2.2.2.1 0 7 (some 92), 0)
def hh_207 : zH := ((95, (fun b => if b = 94 then (6, 7) else hh_206.1.2.1 b), 2546), zrow hh_206.2.1 94 (fun _ => 0), zrow hh_206.2.2.1 94 (fun _ => 0), zrow hh_206.2.2.2.1 94 (fun _ => none), 0)
def hh_208 : zH := ((96, (fun b => if b = 95 then (14, 7) else hh_207.1.2.1 b), 2553), zrow hh_207.2.1 95 (fun _ => 0), zrow hh_207.2.2.1 95 (fun _ => 0), zrow hh_207.2.2.2.1 95 (fun _ => none), 0)
def hh_209 : zH := ((96, hh_208.1.2.1, 2553), hh_208.2.1, hh_208.2.2.1, zup hh_208.2.2.2.1 94 3 (some 95), 0)
def hh_210 : zH := ((96, hh_209.1.2.1, 2553), zup hh_209.2.1 94 4 (-2), hh_209.2.2.1, hh_209.2.2.2.1, 0)
def hh_211 : zH := ((96, hh_210.1.2.1, 2553), zup hh_210.2.1 94 5 0, hh_210.2.2.1, hh_210.2.2.2.1, 0)
def hh_212 : zH := ((96, hh_211.1.2.1, 2553), zup hh_211.2.1 94 6 0, hh_211.2.2.1, hh_211.2.2.2.1, 0)
def hh_213 : zH := ((96, hh_212.1.2.1, 2553), hh_212.2.1, hh_212.2.2.1, zup hh_212.2.2.2.1 94 0 (some 2), 0)
def hh_214 : zH := ((96, hh_213.1.2.1, 2553), hh_213.2.1, hh_213.2.2.1, zup hh_213.2.2.2.1 94 1 (some 86), 0)
def hh_215 : zH := ((96, hh_214.1.2.1, 2553), hh_214.2.1, hh_214.2.2.1, zup hh_214.2.2.2.1 94 2 (some 92), 0)
def hh_216 : zH := ((96, hh_215.1.2.1, 2553), hh_215.2.1, hh_215.2.2.1, zup hh_215.2.2.2.1 0 8 (some 94), 0)
def hh_217 : zH := ((97, (fun b => if b = 96 then (3, 4) else hh_216.1.2.1 b), 2557), zrow hh_216.2.1 96 (fun _ => 0), zrow hh_216.2.2.1 96 (fun _ => 0), zrow hh_216.2.2.2.1 96 (fun _ => none), 0)
def hh_218 : zH := ((98, (fun b => if b = 97 then (14, 7) else hh_217.1.2.1 b), 2564), zrow hh_217.2.1 97 (fun _ => 0), zrow hh_217.2.2.1 97 (fun _ => 0), zrow hh_217.2.2.2.1 97 (fun _ => none), 0)
def hh_219 : zH := ((98, hh_218.1.2.1, 2564), hh_218.2.1, hh_218.2.2.1, zup hh_218.2.2.2.1 96 1 (some 97), 0)
def hh_220 : zH := ((99, (fun b => if b = 98 then (14, 49) else hh_219.1.2.1 b), 2613), zrow hh_219.2.1 98 (fun _ => 0), zrow hh_219.2.2.1 98 (fun _ => 0), zrow hh_219.2.2.2.1 98 (fun _ => none), 0)
def hh_221 : zH := ((99, hh_220.1.2.1, 2613), hh_220.2.1, hh_220.2.2.1, zup hh_220.2.2.2.1 96 2 (some 98), 0)
def hh_222 : zH := ((100, (fun b => if b = 99 then (14, 896) else hh_221.1.2.1 b), 3509), zrow hh_221.2.1 99 (fun _ => 0), zrow hh_221.2.2.1 99 (fun _ => 0), zrow hh_221.2.2.2.1 99 (fun _ => none), 0)
def hh_223 : zH := ((100, hh_222.1.2.1, 3509), hh_222.2.1, hh_222.2.2.1, zup hh_222.2.2.2.1 96 3 (some 99), 0)
def hh_224 : zH := ((100, hh_223.1.2.1, 3509), hh_223.2.1, hh_223.2.2.1, zup hh_223.2.2.2.1 96 0 (some 2), 0)
def hh_225 : zH := ((100, hh_224.1.2.1, 3509), hh_224.2.1, hh_224.2.2.1, zup hh_224.2.2.2.1 0 9 (some 96), 0)
def hh_226 : zH := ((101, (fun b => if b = 100 then (1, 5) else hh_225.1.2.1 b), 3514), zrow hh_225.2.1 100 (fun _ => 0), zrow hh_225.2.2.1 100 (fun _ => 0), zrow hh_225.2.2.2.1 100 (fun _ => none), 0)
def hh_227 : zH := ((102, (fun b => if b = 101 then (14, 40) else hh_226.1.2.1 b), 3554), zrow hh_226.2.1 101 (fun _ => 0), zrow hh_226.2.2.1 101 (fun _ => 0), zrow hh_226.2.2.2.1 101 (fun _ => none), 0)
def hh_228 : zH := ((102, hh_227.1.2.1, 3554), hh_227.2.1, hh_227.2.2.1, zup hh_227.2.2.2.1 100 0 (some 101), 0)
def hh_229 : zH := ((103, (fun b => if b = 102 then (14, 8) else hh_228.1.2.1 b), 3562), zrow hh_228.2.1 102 (fun _ => 0), zrow hh_228.2.2.1 102 (fun _ => 0), zrow hh_228.2.2.2.1 102 (fun _ => none), 0)
def hh_230 : zH := ((103, hh_229.1.2.1, 3562), hh_229.2.1, hh_229.2.2.1, zup hh_229.2.2.2.1 100 1 (some 102), 0)
def hh_231 : zH := ((103, hh_230.1.2.1, 3562), zup hh_230.2.1 100 2 0, hh_230.2.2.1, hh_230.2.2.2.1, 0)
def hh_232 : zH := ((103, hh_231.1.2.1, 3562), zup hh_231.2.1 100 3 0, hh_231.2.2.1, hh_231.2.2.2.1, 0)
def hh_233 : zH := ((104, (fun b => if b = 103 then (14, 288) else hh_232.1.2.1 b), 3850), zrow hh_232.2.1 103 (fun _ => 0), zrow hh_232.2.2.1 103 (fun _ => 0), zrow hh_232.2.2.2.1 103 (fun _ => none), 0)
def hh_234 : zH := ((104, hh_233.1.2.1, 3850), hh_233.2.1, hh_233.2.2.1, zup hh_233.2.2.2.1 100 4 (some 103), 0)
def hh_235 : zH := ((104, hh_234.1.2.1, 3850), hh_234.2.1, hh_234.2.2.1, zup hh_234.2.2.2.1 0 10 (some 100), 0)
def hh_236 : zH := ((105, (fun b => if b = 104 then (17, 12) else hh_235.1.2.1 b), 3862), zrow hh_235.2.1 104 (fun _ => 0), zrow hh_235.2.2.1 104 (fun _ => 0), zrow hh_235.2.2.2.1 104 (fun _ => none), 0)
def hh_237 : zH := ((105, hh_236.1.2.1, 3862), hh_236.2.1, hh_236.2.2.1, zup hh_236.2.2.2.1 0 11 (some 104), 0)
def hh_238 : zH := ((105, hh_237.1.2.1, 3862), zup hh_237.2.1 0 12 0, hh_237.2.2.1, hh_237.2.2.2.1, 0)
def hh_239 : zH := ((105, hh_238.1.2.1, 3862), zup hh_238.2.1 0 13 0, hh_238.2.2.1, hh_238.2.2.2.1, 0)
def hh_240 : zH := ((106, (fun b => if b = 105 then (17, 3) else hh_239.1.2.1 b), 3865), zrow hh_239.2.1 105 (fun _ => 0), zrow hh_239.2.2.1 105 (fun _ => 0), zrow hh_239.2.2.2.1 105 (fun _ => none), 0)
def hh_241 : zH := ((106, hh_240.1.2.1, 3865), hh_240.2.1, hh_240.2.2.1, zup hh_240.2.2.2.1 0 14 (some 105), 0)
def hh_242 : zH := ((106, hh_241.1.2.1, 3865), zup hh_241.2.1 0 15 0, hh_241.2.2.1, hh_241.2.2.2.1, 0)
def hh_243 : zH := ((107, (fun b => if b = 106 then (2, 7) else hh_242.1.2.1 b), 3872), zrow hh_242.2.1 106 (fun _ => 0), zrow hh_242.2.2.1 106 (fun _ => 0), zrow hh_242.2.2.2.1 106 (fun _ => none), 0)
def hh_244 : zH := ((107, hh_243.1.2.1, 3872), zup hh_243.2.1 106 0 0, hh_243.2.2.1, hh_243.2.2.2.1, 0)
def hh_245 : zH := ((107, hh_244.1.2.1, 3872), zup hh_244.2.1 106 1 0, hh_244.2.2.1, hh_244.2.2.2.1, 0)
def hh_246 : zH := ((108, (fun b => if b = 107 then (14, 5) else hh_245.1.2.1 b), 3877), zrow hh_245.2.1 107 (fun _ => 0), zrow hh_245.2.2.1 107 (fun _ => 0), zrow hh_245.2.2.2.1 107 (fun _ => none), 0)
def hh_247 : zH := ((108, hh_246.1.2.1, 3877), hh_246.2.1, hh_246.2.2.1, zup hh_246.2.2.2.1 106 2 (some 107), 0)
def hh_248 : zH := ((109, (fun b => if b = 108 then (14, 5) else hh_247.1.2.1 b), 3882), zrow hh_247.2.1 108 (fun _ => 0), zrow hh_247.2.2.1 108 (fun _ => 0), zrow hh_247.2.2.2.1 108 (fun _ => none), 0)
def hh_249 : zH := ((109, hh_248.1.2.1, 3882), hh_248.2.1, hh_248.2.2.1, zup hh_248.2.2.2.1 106 3 (some 108), 0)
def hh_250 : zH := ((110, (fun b => if b = 109 then (14, 8) else hh_249.1.2.1 b), 3890), zrow hh_249.2.1 109 (fun _ => 0), zrow hh_249.2.2.1 109 (fun _ => 0), zrow hh_249.2.2.2.1 109 (fun _ => none), 0)
def hh_251 : zH := ((110, hh_250.1.2.1, 3890), hh_250.2.1, hh_250.2.2.1, zup hh_250.2.2.2.1 106 4 (some 109), 0)
def hh_252 : zH := ((111, (fun b => if b = 110 then (14, 8) else hh_251.1.2.1 b), 3898), zrow hh_251.2.1 110 (fun _ => 0), zrow hh_251.2.2.1 110 (fun _ => 0), zrow hh_251.2.2.2.1 110 (fun _ => none), 0)
def hh_253 : zH := ((111, hh_252.1.2.1, 3898), hh_252.2.1, hh_252.2.2.1, zup hh_252.2.2.2.1 106 5 (some 110), 0)
def hh_254 : zH := ((112, (fun b => if b = 111 then (14, 8) else hh_253.1.2.1 b), 3906), zrow hh_253.2.1 111 (fun _ => 0), zrow hh_253.2.2.1 111 (fun _ => 0), zrow hh_253.2.2.2.1 111 (fun _ => none), 0)
def hh_255 : zH := ((112, hh_254.1.2.1, 3906), hh_254.2.1, hh_254.2.2.1, zup hh_254.2.2.2.1 106 6 (some 111), 0)
def hh_256 : zH := ((112, hh_255.1.2.1, 3906), hh_255.2.1, hh_255.2.2.1, zup hh_255.2.2.2.1 104 0 (some 106), 0)
def hh_257 : zH := ((113, (fun b => if b = 112 then (2, 7) else hh_256.1.2.1 b), 3913), zrow hh_256.2.1 112 (fun _ => 0), zrow hh_256.2.2.1 112 (fun _ => 0), zrow hh_256.2.2.2.1 112 (fun _ => none), 0)
def hh_258 : zH := ((113, hh_257.1.2.1, 3913), zup hh_257.2.1 112 0 0, hh_257.2.2.1, hh_257.2.2.2.1, 0)
def hh_259 : zH := ((113, hh_258.1.2.1, 3913), zup hh_258.2.1 112 1 0, hh_258.2.2.1, hh_258.2.2.2.1, 0)
def hh_260 : zH := ((114, (fun b => if b = 113 then (14, 5) else hh_259.1.2.1 b), 3918), zrow hh_259.2.1 113 (fun _ => 0), zrow hh_259.2.2.1 113 (fun _ => 0), zrow hh_259.2.2.2.1 113 (fun _ => none), 0)
def hh_261 : zH := ((114, hh_260.1.2.1, 3918), hh_260.2.1, hh_260.2.2.1, zup hh_260.2.2.2.1 112 2 (some 113), 0)
def hh_262 : zH := ((115, (fun b => if b = 114 then (14, 5) else hh_261.1.2.1 b), 3923), zrow hh_261.2.1 114 (fun _ => 0), zrow hh_261.2.2.1 114 (fun _ => 0), zrow hh_261.2.2.2.1 114 (fun _ => none), 0)
def hh_263 : zH := ((115, hh_262.1.2.1, 3923), hh_262.2.1, hh_262.2.2.1, zup hh_262.2.2.2.1 112 3 (some 114), 0)
def hh_264 : zH := ((116, (fun b => if b = 115 then (14, 8) else hh_263.1.2.1 b), 3931), zrow hh_263.2.1 115 (fun _ => 0), zrow hh_263.2.2.1 115 (fun _ => 0), zrow hh_263.2.2.2.1 115 (fun _ => none), 0)
def hh_265 : zH := ((116, hh_264.1.2.1, 3931), hh_264.2.1, hh_264.2.2.1, zup hh_264.2.2.2.1 112 4 (some 115), 0)
def hh_266 : zH := ((117, (fun b => if b = 116 then (14, 8) else hh_265.1.2.1 b), 3939), zrow hh_265.2.1 116 (fun _ => 0), zrow hh_265.2.2.1 116 (fun _ => 0), zrow hh_265.2.2.2.1 116 (fun _ => none), 0)
def hh_267 : zH := ((117, hh_266.1.2.1, 3939), hh_266.2.1, hh_266.2.2.1, zup hh_266.2.2.2.1 112 5 (some 116), 0)
def hh_268 : zH := ((118, (fun b => if b = 117 then (14, 8) else hh_267.1.2.1 b), 3947), zrow hh_267.2.1 117 (fun _ => 0), zrow hh_267.2.2.1 117 (fun _ => 0), zrow hh_267.2.2.2.1 117 (fun _ => none), 0)
def hh_269 : zH := ((118, hh_268.1.2.1, 3947), hh_268.2.1, hh_268.2.2.1, zup hh_268.2.2.2.1 112 6 (some 117), 0)
def hh_270 : zH := ((118, hh_269.1.2.1, 3947), hh_269.2.1, hh_269.2.2.1, zup hh_269.2.2.2.1 104 1 (some 112), 0)
def hh_271 : zH := ((119, (fun b => if b = 118 then (2, 7) else hh_270.1.2.1 b), 3954), zrow hh_270.2.1 118 (fun _ => 0), zrow hh_270.2.2.1 118 (fun _ => 0), zrow hh_270.2.2.2.1 118 (fun _ => none), 0)
def hh_272 : zH := ((119, hh_271.1.2.1, 3954), zup hh_271.2.1 118 0 0, hh_271.2.2.1, hh_271.2.2.2.1, 0)
def hh_273 : zH := ((119, hh_272.1.2.1, 3954), zup hh_272.2.1 118 1 0, hh_272.2.2.1, hh_272.2.2.2.1, 0)
def hh_274 : zH := ((120, (fun b => if b = 119 then (14, 5) else hh_273.1.2.1 b), 3959), zrow hh_273.2.1 119 (fun _ => 0), zrow hh_273.2.2.1 119 (fun _ => 0), zrow hh_273.2.2.2.1 119 (fun _ => none), 0)
def hh_275 : zH := ((120, hh_274.1.2.1, 3959), hh_274.2.1, hh_274.2.2.1, zup hh_274.2.2.2.1 118 2 (some 119), 0)
def hh_276 : zH := ((121, (fun b => if b = 120 then (14, 5) else hh_275.1.2.1 b), 3964), zrow hh_275.2.1 120 (fun _ => 0), zrow hh_275.2.2.1 120 (fun _ => 0), zrow hh_275.2.2.2.1 120 (fun _ => none), 0)
def hh_277 : zH := ((121, hh_276.1.2.1, 3964), hh_276.2.1, hh_276.2.2.1, zup hh_276.2.2.2.1 118 3 (some 120), 0)
def hh_278 : zH := ((122, (fun b => if b = 121 then (14, 8) else hh_277.1.2.1 b), 3972), zrow hh_277.2.1 121 (fun _ => 0), zrow hh_277.2.2.1 121 (fun _ => 0), zrow hh_277.2.2.2.1 121 (fun _ => none), 0)
def hh_279 : zH := ((122, hh_278.1.2.1, 3972), hh_278.2.1, hh_278.2.2.1, zup hh_278.2.2.2.1 118 4 (some 121), 0)
def hh_280 : zH := ((123, (fun b => if b = 122 then (14, 8) else hh_279.1.2.1 b), 3980), zrow hh_279.2.1 122 (fun _ => 0), zrow hh_279.2.2.1 122 (fun _ => 0), zrow hh_279.2.2.2.1 122 (fun _ => none), 0)
def hh_281 : zH := ((123, hh_280.1.2.1, 3980), hh_280.2.1, hh_280.2.2.1, zup hh_280.2.2.2.1 118 5 (some 122), 0)
def hh_282 : zH := ((124, (fun b => if b = 123 then (14, 8) else hh_281.1.2.1 b), 3988), zrow hh_281.2.1 123 (fun _ => 0), zrow hh_281.2.2.1 123 (fun _ => 0), zrow hh_281.2.2.2.1 123 (fun _ => none), 0)
def hh_283 : zH := ((124, hh_282.1.2.1, 3988), hh_282.2.1, hh_282.2.2.1, zup hh_282.2.2.2.1 118 6 (some 123), 0)
def hh_284 : zH := ((124, hh_283.1.2.1, 3988), hh_283.2.1, hh_283.2.2.1, zup hh_283.2.2.2.1 104 2 (some 118), 0)
def hh_285 : zH := ((125, (fun b => if b = 124 then (2, 7) else hh_284.1.2.1 b), 3995), zrow hh_284.2.1 124 (fun _ => 0), zrow hh_284.2.2.1 124 (fun _ => 0), zrow hh_284.2.2.2.1 124 (fun _ => none), 0)
def hh_286 : zH := ((125, hh_285.1.2.1, 3995), zup hh_285.2.1 124 0 0, hh_285.2.2.1, hh_285.2.2.2.1, 0)
def hh_287 : zH := ((125, hh_286.1.2.1, 3995), zup hh_286.2.1 124 1 0, hh_286.2.2.1, hh_286.2.2.2.1, 0)
def hh_288 : zH := ((126, (fun b => if b = 125 then (14, 5) else hh_287.1.2.1 b), 4000), zrow hh_287.2.1 125 (fun _ => 0), zrow hh_287.2.2.1 125 (fun _ => 0), zrow hh_287.2.2.2.1 125 (fun _ => none), 0)
def hh_289 : zH := ((126, hh_288.1.2.1, 4000), hh_288.2.1, hh_288.2.2.1, zup hh_288.2.2.2.1 124 2 (some 125), 0)
def hh_290 : zH := ((127, (fun b => if b = 126 then (14, 5) else hh_289.1.2.1 b), 4005), zrow hh_289.2.1 126 (fun _ => 0), zrow hh_289.2.2.1 126 (fun _ => 0), zrow hh_289.2.2.2.1 126 (fun _ => none), 0)
def hh_291 : zH := ((127, hh_290.1.2.1, 4005), hh_290.2.1, hh_290.2.2.1, zup hh_290.2.2.2.1 124 3 (some 126), 0)
def hh_292 : zH := ((128, (fun b => if b = 127 then (14, 8) else hh_291.1.2.1 b), 4013), zrow hh_291.2.1 127 (fun _ => 0), zrow hh_291.2.2.1 127 (fun _ => 0), zrow hh_291.2.2.2.1 127 (fun _ => none), 0)
def hh_293 : zH := ((128, hh_292.1.2.1, 4013), hh_292.2.1, hh_292.2.2.1, zup hh_292.2.2.2.1 124 4 (some 127), 0)
def hh_294 : zH := ((129, (fun b => if b = 128 then (14, 8) else hh_293.1.2.1 b), 4021), zrow hh_293.2.1 128 (fun _ => 0), zrow hh_293.2.2.1 128 (fun _ => 0), zrow hh_293.2.2.2.1 128 (fun _ => none), 0)
def hh_295 : zH := ((129, hh_294.1.2.1, 4021), hh_294.2.1, hh_294.2.2.1, zup hh_294.2.2.2.1 124 5 (some 128), 0)
def hh_296 : zH := ((130, (fun b => if b = 129 then (14, 8) else hh_295.1.2.1 b), 4029), zrow hh_295.2.1 129 (fun _ => 0), zrow hh_295.2.2.1 129 (fun _ => 0), zrow hh_295.2.2.2.1 129 (fun _ => none), 0)
def hh_297 : zH := ((130, hh_296.1.2.1, 4029), hh_296.2.1, hh_296.2.2.1, zup hh_296.2.2.2.1 124 6 (some 129), 0)
def hh_298 : zH := ((130, hh_297.1.2.1, 4029), hh_297.2.1, hh_297.2.2.1, zup hh_297.2.2.2.1 104 3 (some 124), 0)
def hh_299 : zH := ((131, (fun b => if b = 130 then (2, 7) else hh_298.1.2.1 b), 4036), zrow hh_298.2.1 130 (fun _ => 0), zrow hh_298.2.2.1 130 (fun _ => 0), zrow hh_298.2.2.2.1 130 (fun _ => none), 0)
def hh_300 : zH := ((131, hh_299.1.2.1, 4036), zup hh_299.2.1 130 0 0, hh_299.2.2.1, hh_299.2.2.2.1, 0)
def hh_301 : zH := ((131, hh_300.1.2.1, 4036), zup hh_300.2.1 130 1 0, hh_300.2.2.1, hh_300.2.2.2.1, 0)
def hh_302 : zH := ((132, (fun b => if b = 131 then (14, 5) else hh_301.1.2.1 b), 4041), zrow hh_301.2.1 131 (fun _ => 0), zrow hh_301.2.2.1 131 (fun _ => 0), zrow hh_301.2.2.2.1 131 (fun _ => none), 0)
def hh_303 : zH := ((132, hh_302.1.2.1, 4041), hh_302.2.1, hh_302.2.2.1, zup hh_302.2.2.2.1 130 2 (some 131), 0)
def hh_304 : zH := ((133, (fun b => if b = 132 then (14, 5) else hh_303.1.2.1 b), 4046), zrow hh_303.2.1 132 (fun _ => 0), zrow hh_303.2.2.1 132 (fun _ => 0), zrow hh_303.2.2.2.1 132 (fun _ => none), 0)
def hh_305 : zH := ((133, hh_304.1.2.1, 4046), hh_304.2.1, hh_304.2.2.1, zup hh_304.2.2.2.1 130 3 (some 132), 0)
def hh_306 : zH := ((134, (fun b => if b = 133 then (14, 8) else hh_305.1.2.1 b), 4054), zrow hh_305.2.1 133 (fun _ => 0), zrow hh_305.2.2.1 133 (fun _ => 0), zrow hh_305.2.2.2.1 133 (fun _ => none), 0)
def hh_307 : zH := ((134, hh_306.1.2.1, 4054), hh_306.2.1, hh_306.2.2.1, zup hh_306.2.2.2.1 130 4 (some 133), 0)
def hh_308 : zH := ((135, (fun b => if b = 134 then (14, 8) else hh_307.1.2.1 b), 4062), zrow hh_307.2.1 134 (fun _ => 0), zrow hh_307.2.2.1 134 (fun _ => 0), zrow hh_307.2.2.2.1 134 (fun _ => none), 0)
def hh_309 : zH := ((135, hh_308.1.2.1, 4062), hh_308.2.1, hh_308.2.2.1, zup hh_308.2.2.2.1 130 5 (some 134), 0)
def hh_310 : zH := ((136, (fun b => if b = 135 then (14, 8) else hh_309.1.2.1 b), 4070), zrow hh_309.2.1 135 (fun _ => 0), zrow hh_309.2.2.1 135 (fun _ => 0), zrow hh_309.2.2.2.1 135 (fun _ => none), 0)
def hh_311 : zH := ((136, hh_310.1.2.1, 4070), hh_310.2.1, hh_310.2.2.1, zup hh_310.2.2.2.1 130 6 (some 135), 0)
def hh_312 : zH := ((136, hh_311.1.2.1, 4070), hh_311.2.1, hh_311.2.2.1, zup hh_311.2.2.2.1 104 4 (some 130), 0)
def hh_313 : zH := ((137, (fun b => if b = 136 then (2, 7) else hh_312.1.2.1 b), 4077), zrow hh_312.2.1 136 (fun _ => 0), zrow hh_312.2.2.1 136 (fun _ => 0), zrow hh_312.2.2.2.1 136 (fun _ => none), 0)
def hh_314 : zH := ((137, hh_313.1.2.1, 4077), zup hh_313.2.1 136 0 0, hh_313.2.2.1, hh_313.2.2.2.1, 0)
def hh_315 : zH := ((137, hh_314.1.2.1, 4077), zup hh_314.2.1 136 1 0, hh_314.2.2.1, hh_314.2.2.2.1, 0)
def hh_316 : zH := ((138, (fun b => if b = 137 then (14, 5) else hh_315.1.2.1 b), 4082), zrow hh_315.2.1 137 (fun _ => 0), zrow hh_315.2.2.1 137 (fun _ => 0), zrow hh_315.2.2.2.1 137 (fun _ => none), 0)
def hh_317 : zH := ((138, hh_316.1.2.1, 4082), hh_316.2.1, hh_316.2.2.1, zup hh_316.2.2.2.1 136 2 (some 137), 0)
def hh_318 : zH := ((139, (fun b => if b = 138 then (14, 5) else hh_317.1.2.1 b), 4087), zrow hh_317.2.1 138 (fun _ => 0), zrow hh_317.2.2.1 138 (fun _ => 0), zrow hh_317.2.2.2.1 138 (fun _ => none), 0)
def hh_319 : zH := ((139, hh_318.1.2.1, 4087), hh_318.2.1, hh_318.2.2.1, zup hh_318.2.2.2.1 136 3 (some 138), 0)
def hh_320 : zH := ((140, (fun b => if b = 139 then (14, 8) else hh_319.1.2.1 b), 4095), zrow hh_319.2.1 139 (fun _ => 0), zrow hh_319.2.2.1 139 (fun _ => 0), zrow hh_319.2.2.2.1 139 (fun _ => none), 0)
def hh_321 : zH := ((140, hh_320.1.2.1, 4095), hh_320.2.1, hh_320.2.2.1, zup hh_320.2.2.2.1 136 4 (some 139), 0)
def hh_322 : zH := ((141, (fun b => if b = 140 then (14, 8) else hh_321.1.2.1 b), 4103), zrow hh_321.2.1 140 (fun _ => 0), zrow hh_321.2.2.1 140 (fun _ => 0), zrow hh_321.2.2.2.1 140 (fun _ => none), 0)
def hh_323 : zH := ((141, hh_322.1.2.1, 4103), hh_322.2.1, hh_322.2.2.1, zup hh_322.2.2.2.1 136 5 (some 140), 0)
def hh_324 : zH := ((142, (fun b => if b = 141 then (14, 8) else hh_323.1.2.1 b), 4111), zrow hh_323.2.1 141 (fun _ => 0), zrow hh_323.2.2.1 141 (fun _ => 0), zrow hh_323.2.2.2.1 141 (fun _ => none), 0)
def hh_325 : zH := ((142, hh_324.1.2.1, 4111), hh_324.2.1, hh_324.2.2.1, zup hh_324.2.2.2.1 136 6 (some 141), 0)
def hh_326 : zH := ((142, hh_325.1.2.1, 4111), hh_325.2.1, hh_325.2.2.1, zup hh_325.2.2.2.1 104 5 (some 136), 0)
def hh_327 : zH := ((143, (fun b => if b = 142 then (2, 7) else hh_326.1.2.1 b), 4118), zrow hh_326.2.1 142 (fun _ => 0), zrow hh_326.2.2.1 142 (fun _ => 0), zrow hh_326.2.2.2.1 142 (fun _ => none), 0)
def hh_328 : zH := ((143, hh_327.1.2.1, 4118), zup hh_327.2.1 142 0 0, hh_327.2.2.1, hh_327.2.2.2.1, 0)
def hh_329 : zH := ((143, hh_328.1.2.1, 4118), zup hh_328.2.1 142 1 0, hh_328.2.2.1, hh_328.2.2.2.1, 0)
def hh_330 : zH := ((144, (fun b => if b = 143 then (14, 5) else hh_329.1.2.1 b), 4123), zrow hh_329.2.1 143 (fun _ => 0), zrow hh_329.2.2.1 143 (fun _ => 0), zrow hh_329.2.2.2.1 143 (fun _ => none), 0)
def hh_331 : zH := ((144, hh_330.1.2.1, 4123), hh_330.2.1, hh_330.2.2.1, zup hh_330.2.2.2.1 142 2 (some 143), 0)
def hh_332 : zH := ((145, (fun b => if b = 144 then (14, 5) else hh_331.1.2.1 b), 4128), zrow hh_331.2.1 144 (fun _ => 0), zrow hh_331.2.2.1 144 (fun _ => 0), zrow hh_331.2.2.2.1 144 (fun _ => none), 0)
def hh_333 : zH := ((145, hh_332.1.2.1, 4128), hh_332.2.1, hh_332.2.2.1, zup hh_332.2.2.2.1 142 3 (some 144), 0)
def hh_334 : zH := ((146, (fun b => if b = 145 then (14, 8) else hh_333.1.2.1 b), 4136), zrow hh_333.2.1 145 (fun _ => 0), zrow hh_333.2.2.1 145 (fun _ => 0), zrow hh_333.2.2.2.1 145 (fun _ => none), 0)
def hh_335 : zH := ((146, hh_334.1.2.1, 4136), hh_334.2.1, hh_334.2.2.1, zup hh_334.2.2.2.1 142 4 (some 145), 0)
def hh_336 : zH := ((147, (fun b => if b = 146 then (14, 8) else hh_335.1.2.1 b), 4144), zrow hh_335.2.1 146 (fun _ => 0), zrow hh_335.2.2.1 146 (fun _ => 0), zrow hh_335.2.2.2.1 146 (fun _ => none), 0)
def hh_337 : zH := ((147, hh_336.1.2.1, 4144), hh_336.2.1, hh_336.2.2.1, zup hh_336.2.2.2.1 142 5 (some 146), 0)
def hh_338 : zH := ((148, (fun b => if b = 147 then (14, 8) else hh_337.1.2.1 b), 4152), zrow hh_337.2.1 147 (fun _ => 0), zrow hh_337.2.2.1 147 (fun _ => 0), zrow hh_337.2.2.2.1 147 (fun _ => none), 0)
def hh_339 : zH := ((148, hh_338.1.2.1, 4152), hh_338.2.1, hh_338.2.2.1, zup hh_338.2.2.2.1 142 6 (some 147), 0)
def hh_340 : zH := ((148, hh_339.1.2.1, 4152), hh_339.2.1, hh_339.2.2.1, zup hh_339.2.2.2.1 104 6 (some 142), 0)
def hh_341 : zH := ((149, (fun b => if b = 148 then (2, 7) else hh_340.1.2.1 b), 4159), zrow hh_340.2.1 148 (fun _ => 0), zrow hh_340.2.2.1 148 (fun _ => 0), zrow hh_340.2.2.2.1 148 (fun _ => none), 0)
def hh_342 : zH := ((149, hh_341.1.2.1, 4159), zup hh_341.2.1 148 0 0, hh_341.2.2.1, hh_341.2.2.2.1, 0)
def hh_343 : zH := ((149, hh_342.1.2.1, 4159), zup hh_342.2.1 148 1 0, hh_342.2.2.1, hh_342.2.2.2.1, 0)
def hh_344 : zH := ((150, (fun b => if b = 149 then (14, 5) else hh_343.1.2.1 b), 4164), zrow hh_343.2.1 149 (fun _ => 0), zrow hh_343.2.2.1 149 (fun _ => 0), zrow hh_343.2.2.2.1 149 (fun _ => none), 0)
def hh_345 : zH := ((150, hh_344.1.2.1, 4164), hh_344.2.1, hh_344.2.2.1, zup hh_344.2.2.2.1 148 2 (some 149), 0)
def hh_346 : zH := ((151, (fun b => if b = 150 then (14, 5) else hh_345.1.2.1 b), 4169), zrow hh_345.2.1 150 (fun _ => 0), zrow hh_345.2.2.1 150 (fun _ => 0), zrow hh_345.2.2.2.1 150 (fun _ => none), 0)
def hh_347 : zH := ((151, hh_346.1.2.1, 4169), hh_346.2.1, hh_346.2.2.1, zup hh_346.2.2.2.1 148 3 (some 150), 0)
def hh_348 : zH := ((152, (fun b => if b = 151 then (14, 8) else hh_347.1.2.1 b), 4177), zrow hh_347.2.1 151 (fun _ => 0), zrow hh_347.2.2.1 151 (fun _ => 0), zrow hh_347.2.2.2.1 151 (fun _ => none), 0)
def hh_349 : zH := ((152, hh_348.1.2.1, 4177), hh_348.2.1, hh_348.2.2.1, zup hh_348.2.2.2.1 148 4 (some 151), 0)
def hh_350 : zH := ((153, (fun b => if b = 152 then (14, 8) else hh_349.1.2.1 b), 4185), zrow hh_349.2.1 152 (fun _ => 0), zrow hh_349.2.2.1 152 (fun _ => 0), zrow hh_349.2.2.2.1 152 (fun _ => none), 0)
def hh_351 : zH := ((153, hh_350.1.2.1, 4185), hh_350.2.1, hh_350.2.2.1, zup hh_350.2.2.2.1 148 5 (some 152), 0)
def hh_352 : zH := ((154, (fun b => if b = 153 then (14, 8) else hh_351.1.2.1 b), 4193), zrow hh_351.2.1 153 (fun _ => 0), zrow hh_351.2.2.1 153 (fun _ => 0), zrow hh_351.2.2.2.1 153 (fun _ => none), 0)
def hh_353 : zH := ((154, hh_352.1.2.1, 4193), hh_352.2.1, hh_352.2.2.1, zup hh_352.2.2.2.1 148 6 (some 153), 0)
def hh_354 : zH := ((154, hh_353.1.2.1, 4193), hh_353.2.1, hh_353.2.2.1, zup hh_353.2.2.2.1 104 7 (some 148), 0)
def hh_355 : zH := ((155, (fun b => if b = 154 then (2, 7) else hh_354.1.2.1 b), 4200), zrow hh_354.2.1 154 (fun _ => 0), zrow hh_354.2.2.1 154 (fun _ => 0), zrow hh_354.2.2.2.1 154 (fun _ => none), 0)
def hh_356 : zH := ((155, hh_355.1.2.1, 4200), zup hh_355.2.1 154 0 0, hh_355.2.2.1, hh_355.2.2.2.1, 0)
def hh_357 : zH := ((155, hh_356.1.2.1, 4200), zup hh_356.2.1 154 1 0, hh_356.2.2.1, hh_356.2.2.2.1, 0)
def hh_358 : zH := ((156, (fun b => if b = 155 then (14, 5) else hh_357.1.2.1 b), 4205), zrow hh_357.2.1 155 (fun _ => 0), zrow hh_357.2.2.1 155 (fun _ => 0), zrow hh_357.2.2.2.1 155 (fun _ => none), 0)
def hh_359 : zH := ((156, hh_358.1.2.1, 4205), hh_358.2.1, hh_358.2.2.1, zup hh_358.2.2.2.1 154 2 (some 155), 0)
def hh_360 : zH := ((157, (fun b => if b = 156 then (14, 5) else hh_359.1.2.1 b), 4210), zrow hh_359.2.1 156 (fun _ => 0), zrow hh_359.2.2.1 156 (fun _ => 0), zrow hh_359.2.2.2.1 156 (fun _ => none), 0)
def hh_361 : zH := ((157, hh_360.1.2.1, 4210), hh_360.2.1, hh_360.2.2.1, zup hh_360.2.2.2.1 154 3 (some 156), 0)
def hh_362 : zH := ((158, (fun b => if b = 157 then (14, 8) else hh_361.1.2.1 b), 4218), zrow hh_361.2.1 157 (fun _ => 0), zrow hh_361.2.2.1 157 (fun _ => 0), zrow hh_361.2.2.2.1 157 (fun _ => none), 0)
def hh_363 : zH := ((158, hh_362.1.2.1, 4218), hh_362.2.1, hh_362.2.2.1, zup hh_362.2.2.2.1 154 4 (some 157), 0)
def hh_364 : zH := ((159, (fun b => if b = 158 then (14, 8) else hh_363.1.2.1 b), 4226), zrow hh_363.2.1 158 (fun _ => 0), zrow hh_363.2.2.1 158 (fun _ => 0), zrow hh_363.2.2.2.1 158 (fun _ => none), 0)
def hh_365 : zH := ((159, hh_364.1.2.1, 4226), hh_364.2.1, hh_364.2.2.1, zup hh_364.2.2.2.1 154 5 (some 158), 0)
def hh_366 : zH := ((160, (fun b => if b = 159 then (14, 8) else hh_365.1.2.1 b), 4234), zrow hh_365.2.1 159 (fun _ => 0), zrow hh_365.2.2.1 159 (fun _ => 0), zrow hh_365.2.2.2.1 159 (fun _ => none), 0)
def hh_367 : zH := ((160, hh_366.1.2.1, 4234), hh_366.2.1, hh_366.2.2.1, zup hh_366.2.2.2.1 154 6 (some 159), 0)
def hh_368 : zH := ((160, hh_367.1.2.1, 4234), hh_367.2.1, hh_367.2.2.1, zup hh_367.2.2.2.1 104 8 (some 154), 0)
def hh_369 : zH := ((161, (fun b => if b = 160 then (2, 7) else hh_368.1.2.1 b), 4241), zrow hh_368.2.1 160 (fun _ => 0), zrow hh_368.2.2.1 160 (fun _ => 0), zrow hh_368.2.2.2.1 160 (fun _ => none), 0)
def hh_370 : zH := ((161, hh_369.1.2.1, 4241), zup hh_369.2.1 160 0 0, hh_369.2.2.1, hh_369.2.2.2.1, 0)
def hh_371 : zH := ((161, hh_370.1.2.1, 4241), zup hh_370.2.1 160 1 0, hh_370.2.2.1, hh_370.2.2.2.1, 0)
def hh_372 : zH := ((162, (fun b => if b = 161 then (14, 5) else hh_371.1.2.1 b), 4246), zrow hh_371.2.1 161 (fun _ => 0), zrow hh_371.2.2.1 161 (fun _ => 0), zrow hh_371.2.2.2.1 161 (fun _ => none), 0)
def hh_373 : zH := ((162, hh_372.1.2.1, 4246), hh_372.2.1, hh_372.2.2.1, zup hh_372.2.2.2.1 160 2 (some 161), 0)
def hh_374 : zH := ((163, (fun b => if b = 162 then (14, 5) else hh_373.1.2.1 b), 4251), zrow hh_373.2.1 162 (fun _ => 0), zrow hh_373.2.2.1 162 (fun _ => 0), zrow hh_373.2.2.2.1 162 (fun _ => none), 0)
def hh_375 : zH := ((163, hh_374.1.2.1, 4251), hh_374.2.1, hh_374.2.2.1, zup hh_374.2.2.2.1 160 3 (some 162), 0)
def hh_376 : zH := ((164, (fun b => if b = 163 then (14, 8) else hh_375.1.2.1 b), 4259), zrow hh_375.2.1 163 (fun _ => 0), zrow hh_375.2.2.1 163 (fun _ => 0), zrow hh_375.2.2.2.1 163 (fun _ => none), 0)
def hh_377 : zH := ((164, hh_376.1.2.1, 4259), hh_376.2.1, hh_376.2.2.1, zup hh_376.2.2.2.1 160 4 (some 163), 0)
def hh_378 : zH := ((165, (fun b => if b = 164 then (14, 8) else hh_377.1.2.1 b), 4267), zrow hh_377.2.1 164 (fun _ => 0), zrow hh_377.2.2.1 164 (fun _ => 0), zrow hh_377.2.2.2.1 164 (fun _ => none), 0)
def hh_379 : zH := ((165, hh_378.1.2.1, 4267), hh_378.2.1, hh_378.2.2.1, zup hh_378.2.2.2.1 160 5 (some 164), 0)
def hh_380 : zH := ((166, (fun b => if b = 165 then (14, 8) else hh_379.1.2.1 b), 4275), zrow hh_379.2.1 165 (fun _ => 0), zrow hh_379.2.2.1 165 (fun _ => 0), zrow hh_379.2.2.2.1 165 (fun _ => none), 0)
def hh_381 : zH := ((166, hh_380.1.2.1, 4275), hh_380.2.1, hh_380.2.2.1, zup hh_380.2.2.2.1 160 6 (some 165), 0)
def hh_382 : zH := ((166, hh_381.1.2.1, 4275), hh_381.2.1, hh_381.2.2.1, zup hh_381.2.2.2.1 104 9 (some 160), 0)
def hh_383 : zH := ((167, (fun b => if b = 166 then (2, 7) else hh_382.1.2.1 b), 4282), zrow hh_382.2.1 166 (fun _ => 0), zrow hh_382.2.2.1 166 (fun _ => 0), zrow hh_382.2.2.2.1 166 (fun _ => none), 0)
def hh_384 : zH := ((167, hh_383.1.2.1, 4282), zup hh_383.2.1 166 0 0, hh_383.2.2.1, hh_383.2.2.2.1, 0)
def hh_385 : zH := ((167, hh_384.1.2.1, 4282), zup hh_384.2.1 166 1 0, hh_384.2.2.1, hh_384.2.2.2.1, 0)
def hh_386 : zH := ((168, (fun b => if b = 167 then (14, 5) else hh_385.1.2.1 b), 4287), zrow hh_385.2.1 167 (fun _ => 0), zrow hh_385.2.2.1 167 (fun _ => 0), zrow hh_385.2.2.2.1 167 (fun _ => none), 0)
def hh_387 : zH := ((168, hh_386.1.2.1, 4287), hh_386.2.1, hh_386.2.2.1, zup hh_386.2.2.2.1 166 2 (some 167), 0)
def hh_388 : zH := ((169, (fun b => if b = 168 then (14, 5) else hh_387.1.2.1 b), 4292), zrow hh_387.2.1 168 (fun _ => 0), zrow hh_387.2.2.1 168 (fun _ => 0), zrow hh_387.2.2.2.1 168 (fun _ => none), 0)
def hh_389 : zH := ((169, hh_388.1.2.1, 4292), hh_388.2.1, hh_388.2.2.1, zup hh_388.2.2.2.1 166 3 (some 168), 0)
def hh_390 : zH := ((170, (fun b => if b = 169 then (14, 8) else hh_389.1.2.1 b), 4300), zrow hh_389.2.1 169 (fun _ => 0), zrow hh_389.2.2.1 169 (fun _ => 0), zrow hh_389.2.2.2.1 169 (fun _ => none), 0)
def hh_391 : zH := ((170, hh_390.1.2.1, 4300), hh_390.2.1, hh_390.2.2.1, zup hh_390.2.2.2.1 166 4 (some 169), 0)
def hh_392 : zH := ((171, (fun b => if b = 170 then (14, 8) else hh_391.1.2.1 b), 4308), zrow hh_391.2.1 170 (fun _ => 0), zrow hh_391.2.2.1 170 (fun _ => 0), zrow hh_391.2.2.2.1 170 (fun _ => none), 0)
def hh_393 : zH := ((171, hh_392.1.2.1, 4308), hh_392.2.1, hh_392.2.2.1, zup hh_392.2.2.2.1 166 5 (some 170), 0)
def hh_394 : zH := ((172, (fun b => if b = 171 then (14, 8) else hh_393.1.2.1 b), 4316), zrow hh_393.2.1 171 (fun _ => 0), zrow hh_393.2.2.1 171 (fun _ => 0), zrow hh_393.2.2.2.1 171 (fun _ => none), 0)
def hh_395 : zH := ((172, hh_394.1.2.1, 4316), hh_394.2.1, hh_394.2.2.1, zup hh_394.2.2.2.1 166 6 (some 171), 0)
def hh_396 : zH := ((172, hh_395.1.2.1, 4316), hh_395.2.1, hh_395.2.2.1, zup hh_395.2.2.2.1 104 10 (some 166), 0)
def hh_397 : zH := ((173, (fun b => if b = 172 then (2, 7) else hh_396.1.2.1 b), 4323), zrow hh_396.2.1 172 (fun _ => 0), zrow hh_396.2.2.1 172 (fun _ => 0), zrow hh_396.2.2.2.1 172 (fun _ => none), 0)
def hh_398 : zH := ((173, hh_397.1.2.1, 4323), zup hh_397.2.1 172 0 0, hh_397.2.2.1, hh_397.2.2.2.1, 0)
def hh_399 : zH := ((173, hh_398.1.2.1, 4323), zup hh_398.2.1 172 1 0, hh_398.2.2.1, hh_398.2.2.2.1, 0)
def hh_400 : zH := ((174, (fun b => if b = 173 then (14, 5) else hh_399.1.2.1 b), 4328), zrow hh_399.2.1 173 (fun _ => 0), zrow hh_399.2.2.1 173 (fun _ => 0), zrow hh_399.2.2.2.1 173 (fun _ => none), 0)
def hh_401 : zH := ((174, hh_400.1.2.1, 4328), hh_400.2.1, hh_400.2.2.1, zup hh_400.2.2.2.1 172 2 (some 173), 0)
def hh_402 : zH := ((175, (fun b => if b = 174 then (14, 5) else hh_401.1.2.1 b), 4333), zrow hh_401.2.1 174 (fun _ => 0), zrow hh_401.2.2.1 174 (fun _ => 0), zrow hh_401.2.2.2.1 174 (fun _ => none), 0)
def hh_403 : zH := ((175, hh_402.1.2.1, 4333), hh_402.2.1, hh_402.2.2.1, zup hh_402.2.2.2.1 172 3 (some 174), 0)
def hh_404 : zH := ((176, (fun b => if b = 175 then (14, 8) else hh_403.1.2.1 b), 4341), zrow hh_403.2.1 175 (fun _ => 0), zrow hh_403.2.2.1 175 (fun _ => 0), zrow hh_403.2.2.2.1 175 (fun _ => none), 0)
def hh_405 : zH := ((176, hh_404.1.2.1, 4341), hh_404.2.1, hh_404.2.2.1, zup hh_404.2.2.2.1 172 4 (some 175), 0)
def hh_406 : zH := ((177, (fun b => if b = 176 then (14, 8) else hh_405.1.2.1 b), 4349), zrow hh_405.2.1 176 (fun _ => 0), zrow hh_405.2.2.1 176 (fun _ => 0), zrow hh_405.2.2.2.1 176 (fun _ => none), 0)
def hh_407 : zH := ((177, hh_406.1.2.1, 4349), hh_406.2.1, hh_406.2.2.1, zup hh_406.2.2.2.1 172 5 (some 176), 0)
def hh_408 : zH := ((178, (fun b => if b = 177 then (14, 8) else hh_407.1.2.1 b), 4357), zrow hh_407.2.1 177 (fun _ => 0), zrow hh_407.2.2.1 177 (fun _ => 0), zrow hh_407.2.2.2.1 177 (fun _ => none), 0)
def hh_409 : zH := ((178, hh_408.1.2.1, 4357), hh_408.2.1, hh_408.2.2.1, zup hh_408.2.2.2.1 172 6 (some 177), 0)
def hh_410 : zH := ((178, hh_409.1.2.1, 4357), hh_409.2.1, hh_409.2.2.1, zup hh_409.2.2.2.1 104 11 (some 172), 0)
def hh_411 : zH := ((179, (fun b => if b = 178 then (2, 7) else hh_410.1.2.1 b), 4364), zrow hh_410.2.1 178 (fun _ => 0), zrow hh_410.2.2.1 178 (fun _ => 0), zrow hh_410.2.2.2.1 178 (fun _ => none), 0)
def hh_412 : zH := ((179, hh_411.1.2.1, 4364), zup hh_411.2.1 178 0 0, hh_411.2.2.1, hh_411.2.2.2.1, 0)
def hh_413 : zH := ((179, hh_412.1.2.1, 4364), zup hh_412.2.1 178 1 0, hh_412.2.2.1, hh_412.2.2.2.1, 0)
def hh_414 : zH := ((180, (fun b => if b = 179 then (14, 5) else hh_413.1.2.1 b), 4369), zrow hh_413.2.1 179 (fun _ => 0), zrow hh_413.2.2.1 179 (fun _ => 0), zrow hh_413.2.2.2.1 179 (fun _ => none), 0)
def hh_415 : zH := ((180, hh_414.1.2.1, 4369), hh_414.2.1, hh_414.2.2.1, zup hh_414.2.2.2.1 178 2 (some 179), 0)
def hh_416 : zH := ((181, (fun b => if b = 180 then (14, 5) else hh_415.1.2.1 b), 4374), zrow hh_415.2.1 180 (fun _ => 0), zrow hh_415.2.2.1 180 (fun _ => 0), zrow hh_415.2.2.2.1 180 (fun _ => none), 0)
def hh_417 : zH := ((181, hh_416.1.2.1, 4374), hh_416.2.1, hh_416.2.2.1, zup hh_416.2.2.2.1 178 3 (some 180), 0)
def hh_418 : zH := ((182, (fun b => if b = 181 then (14, 8) else hh_417.1.2.1 b), 4382), zrow hh_417.2.1 181 (fun _ => 0), zrow hh_417.2.2.1 181 (fun _ => 0), zrow hh_417.2.2.2.1 181 (fun _ => none), 0)
def hh_419 : zH := ((182, hh_418.1.2.1, 4382), hh_418.2.1, hh_418.2.2.1, zup hh_418.2.2.2.1 178 4 (some 181), 0)
def hh_420 : zH := ((183, (fun b => if b = 182 then (14, 8) else hh_419.1.2.1 b), 4390), zrow hh_419.2.1 182 (fun _ => 0), zrow hh_419.2.2.1 182 (fun _ => 0), zrow hh_419.2.2.2.1 182 (fun _ => none), 0)
def hh_421 : zH := ((183, hh_420.1.2.1, 4390), hh_420.2.1, hh_420.2.2.1, zup hh_420.2.2.2.1 178 5 (some 182), 0)
def hh_422 : zH := ((184, (fun b => if b = 183 then (14, 8) else hh_421.1.2.1 b), 4398), zrow hh_421.2.1 183 (fun _ => 0), zrow hh_421.2.2.1 183 (fun _ => 0), zrow hh_421.2.2.2.1 183 (fun _ => none), 0)
def hh_423 : zH := ((184, hh_422.1.2.1, 4398), hh_422.2.1, hh_422.2.2.1, zup hh_422.2.2.2.1 178 6 (some 183), 0)
def hh_424 : zH := ((184, hh_423.1.2.1, 4398), hh_423.2.1, hh_423.2.2.1, zup hh_423.2.2.2.1 105 0 (some 178), 0)
def hh_425 : zH := ((185, (fun b => if b = 184 then (2, 7) else hh_424.1.2.1 b), 4405), zrow hh_424.2.1 184 (fun _ => 0), zrow hh_424.2.2.1 184 (fun _ => 0), zrow hh_424.2.2.2.1 184 (fun _ => none), 0)
def hh_426 : zH := ((185, hh_425.1.2.1, 4405), zup hh_425.2.1 184 0 0, hh_425.2.2.1, hh_425.2.2.2.1, 0)
def hh_427 : zH := ((185, hh_426.1.2.1, 4405), zup hh_426.2.1 184 1 0, hh_426.2.2.1, hh_426.2.2.2.1, 0)
def hh_428 : zH := ((186, (fun b => if b = 185 then (14, 5) else hh_427.1.2.1 b), 4410), zrow hh_427.2.1 185 (fun _ => 0), zrow hh_427.2.2.1 185 (fun _ => 0), zrow hh_427.2.2.2.1 185 (fun _ => none), 0)
def hh_429 : zH := ((186, hh_428.1.2.1, 4410), hh_428.2.1, hh_428.2.2.1, zup hh_428.2.2.2.1 184 2 (some 185), 0)
def hh_430 : zH := ((187, (fun b => if b = 186 then (14, 5) else hh_429.1.2.1 b), 4415), zrow hh_429.2.1 186 (fun _ => 0), zrow hh_429.2.2.1 186 (fun _ => 0), zrow hh_429.2.2.2.1 186 (fun _ => none), 0)
def hh_431 : zH := ((187, hh_430.1.2.1, 4415), hh_430.2.1, hh_430.2.2.1, zup hh_430.2.2.2.1 184 3 (some 186), 0)
def hh_432 : zH := ((188, (fun b => if b = 187 then (14, 8) else hh_431.1.2.1 b), 4423), zrow hh_431.2.1 187 (fun _ => 0), zrow hh_431.2.2.1 187 (fun _ => 0), zrow hh_431.2.2.2.1 187 (fun _ => none), 0)
def hh_433 : zH := ((188, hh_432.1.2.1, 4423), hh_432.2.1, hh_432.2.2.1, zup hh_432.2.2.2.1 184 4 (some 187), 0)
def hh_434 : zH := ((189, (fun b => if b = 188 then (14, 8) else hh_433.1.2.1 b), 4431), zrow hh_433.2.1 188 (fun _ => 0), zrow hh_433.2.2.1 188 (fun _ => 0), zrow hh_433.2.2.2.1 188 (fun _ => none), 0)
def hh_435 : zH := ((189, hh_434.1.2.1, 4431), hh_434.2.1, hh_434.2.2.1, zup hh_434.2.2.2.1 184 5 (some 188), 0)
def hh_436 : zH := ((190, (fun b => if b = 189 then (14, 8) else hh_435.1.2.1 b), 4439), zrow hh_435.2.1 189 (fun _ => 0), zrow hh_435.2.2.1 189 (fun _ => 0), zrow hh_435.2.2.2.1 189 (fun _ => none), 0)
def hh_437 : zH := ((190, hh_436.1.2.1, 4439), hh_436.2.1, hh_436.2.2.1, zup hh_436.2.2.2.1 184 6 (some 189), 0)
def hh_438 : zH := ((190, hh_437.1.2.1, 4439), hh_437.2.1, hh_437.2.2.1, zup hh_437.2.2.2.1 105 1 (some 184), 0)
def hh_439 : zH := ((191, (fun b => if b = 190 then (2, 7) else hh_438.1.2.1 b), 4446), zrow hh_438.2.1 190 (fun _ => 0), zrow hh_438.2.2.1 190 (fun _ => 0), zrow hh_438.2.2.2.1 190 (fun _ => none), 0)
def hh_440 : zH := ((191, hh_439.1.2.1, 4446), zup hh_439.2.1 190 0 0, hh_439.2.2.1, hh_439.2.2.2.1, 0)
def hh_441 : zH := ((191, hh_440.1.2.1, 4446), zup hh_440.2.1 190 1 0, hh_440.2.2.1, hh_440.2.2.2.1, 0)
def hh_442 : zH := ((192, (fun b => if b = 191 then (14, 5) else hh_441.1.2.1 b), 4451), zrow hh_441.2.1 191 (fun _ => 0), zrow hh_441.2.2.1 191 (fun _ => 0), zrow hh_441.2.2.2.1 191 (fun _ => none), 0)
def hh_443 : zH := ((192, hh_442.1.2.1, 4451), hh_442.2.1, hh_442.2.2.1, zup hh_442.2.2.2.1 190 2 (some 191), 0)
def hh_444 : zH := ((193, (fun b => if b = 192 then (14, 5) else hh_443.1.2.1 b), 4456), zrow hh_443.2.1 192 (fun _ => 0), zrow hh_443.2.2.1 192 (fun _ => 0), zrow hh_443.2.2.2.1 192 (fun _ => none), 0)
def hh_445 : zH := ((193, hh_444.1.2.1, 4456), hh_444.2.1, hh_444.2.2.1, zup hh_444.2.2.2.1 190 3 (some 192), 0)
def hh_446 : zH := ((194, (fun b => if b = 193 then (14, 8) else hh_445.1.2.1 b), 4464), zrow hh_445.2.1 193 (fun _ => 0), zrow hh_445.2.2.1 193 (fun _ => 0), zrow hh_445.2.2.2.1 193 (fun _ => none), 0)
def hh_447 : zH := ((194, hh_446.1.2.1, 4464), hh_446.2.1, hh_446.2.2.1, zup hh_446.2.2.2.1 190 4 (some 193), 0)
def hh_448 : zH := ((195, (fun b => if b = 194 then (14, 8) else hh_447.1.2.1 b), 4472), zrow hh_447.2.1 194 (fun _ => 0), zrow hh_447.2.2.1 194 (fun _ => 0), zrow hh_447.2.2.2.1 194 (fun _ => none), 0)
def hh_449 : zH := ((195, hh_448.1.2.1, 4472), hh_448.2.1, hh_448.2.2.1, zup hh_448.2.2.2.1 190 5 (some 194), 0)
def hh_450 : zH := ((196, (fun b => if b = 195 then (14, 8) else hh_449.1.2.1 b), 4480), zrow hh_449.2.1 195 (fun _ => 0), zrow hh_449.2.2.1 195 (fun _ => 0), zrow hh_449.2.2.2.1 195 (fun _ => none), 0)
def hh_451 : zH := ((196, hh_450.1.2.1, 4480), hh_450.2.1, hh_450.2.2.1, zup hh_450.2.2.2.1 190 6 (some 195), 0)
def hh_452 : zH := ((196, hh_451.1.2.1, 4480), hh_451.2.1, hh_451.2.2.1, zup hh_451.2.2.2.1 105 2 (some 190), 0)
def hh_453 : zH := ((197, (fun b => if b = 196 then (12, 39) else hh_452.1.2.1 b), 4519), zrow hh_452.2.1 196 (fun _ => 0), zrow hh_452.2.2.1 196 (fun _ => 0), zrow hh_452.2.2.2.1 196 (fun _ => none), 0)
def hh_454 : zH := ((198, (fun b => if b = 197 then (14, 1000) else hh_453.1.2.1 b), 5519), zrow hh_453.2.1 197 (fun _ => 0), zrow hh_453.2.2.1 197 (fun _ => 0), zrow hh_453.2.2.2.1 197 (fun _ => none), 0)
def hh_455 : zH := ((198, hh_454.1.2.1, 5519), hh_454.2.1, hh_454.2.2.1, zup hh_454.2.2.2.1 196 1 (some 197), 0)
def hh_456 : zH := ((198, hh_455.1.2.1, 5519), zup hh_455.2.1 196 10 (-1), hh_455.2.2.1, hh_455.2.2.2.1, 0)
def hh_457 : zH := ((199, (fun b => if b = 198 then (14, 8) else hh_456.1.2.1 b), 5527), zrow hh_456.2.1 198 (fun _ => 0), zrow hh_456.2.2.1 198 (fun _ => 0), zrow hh_456.2.2.2.1 198 (fun _ => none), 0)
def hh_458 : zH := ((199, hh_457.1.2.1, 5527), hh_457.2.1, hh_457.2.2.1, zup hh_457.2.2.2.1 196 12 (some 198), 0)
def hh_459 : zH := ((200, (fun b => if b = 199 then (14, 363) else hh_458.1.2.1 b), 5890), zrow hh_458.2.1 199 (fun _ => 0), zrow hh_458.2.2.1 199 (fun _ => 0), zrow hh_458.2.2.2.1 199 (fun _ => none), 0)
def hh_460 : zH := ((200, hh_459.1.2.1, 5890), hh_459.2.1, hh_459.2.2.1, zup hh_459.2.2.2.1 196 15 (some 199), 0)
def hh_461 : zH := ((201, (fun b => if b = 200 then (14, 363) else hh_460.1.2.1 b), 6253), zrow hh_460.2.1 200 (fun _ => 0), zrow hh_460.2.2.1 200 (fun _ => 0), zrow hh_460.2.2.2.1 200 (fun _ => none), 0)
def hh_462 : zH := ((201, hh_461.1.2.1, 6253), hh_461.2.1, hh_461.2.2.1, zup hh_461.2.2.2.1 196 16 (some 200), 0)
def hh_463 : zH := ((202, (fun b => if b = 201 then (14, 76) else hh_462.1.2.1 b), 6329), zrow hh_462.2.1 201 (fun _ => 0), zrow hh_462.2.2.1 201 (fun _ => 0), zrow hh_462.2.2.2.1 201 (fun _ => none), 0)
def hh_464 : zH := ((202, hh_463.1.2.1, 6329), hh_463.2.1, hh_463.2.2.1, zup hh_463.2.2.2.1 196 17 (some 201), 0)
def hh_465 : zH := ((203, (fun b => if b = 202 then (14, 912) else hh_464.1.2.1 b), 7241), zrow hh_464.2.1 202 (fun _ => 0), zrow hh_464.2.2.1 202 (fun _ => 0), zrow hh_464.2.2.2.1 202 (fun _ => none), 0)
def hh_466 : zH := ((203, hh_465.1.2.1, 7241), hh_465.2.1, hh_465.2.2.1, zup hh_465.2.2.2.1 196 18 (some 202), 0)
def hh_467 : zH := ((204, (fun b => if b = 203 then (14, 228) else hh_466.1.2.1 b), 7469), zrow hh_466.2.1 203 (fun _ => 0), zrow hh_466.2.2.1 203 (fun _ => 0), zrow hh_466.2.2.2.1 203 (fun _ => none), 0)
def hh_468 : zH := ((204, hh_467.1.2.1, 7469), hh_467.2.1, hh_467.2.2.1, zup hh_467.2.2.2.1 196 19 (some 203), 0)
def hh_469 : zH := ((205, (fun b => if b = 204 then (14, 3200) else hh_468.1.2.1 b), 10669), zrow hh_468.2.1 204 (fun _ => 0), zrow hh_468.2.2.1 204 (fun _ => 0), zrow hh_468.2.2.2.1 204 (fun _ => none), 0)
def hh_470 : zH := ((205, hh_469.1.2.1, 10669), hh_469.2.1, hh_469.2.2.1, zup hh_469.2.2.2.1 196 22 (some 204), 0)
def hh_471 : zH := ((206, (fun b => if b = 205 then (14, 7) else hh_470.1.2.1 b), 10676), zrow hh_470.2.1 205 (fun _ => 0), zrow hh_470.2.2.1 205 (fun _ => 0), zrow hh_470.2.2.2.1 205 (fun _ => none), 0)
def hh_472 : zH := ((206, hh_471.1.2.1, 10676), hh_471.2.1, hh_471.2.2.1, zup hh_471.2.2.2.1 196 24 (some 205), 0)
def hh_473 : zH := ((207, (fun b => if b = 206 then (14, 7) else hh_472.1.2.1 b), 10683), zrow hh_472.2.1 206 (fun _ => 0), zrow hh_472.2.2.1 206 (fun _ => 0), zrow hh_472.2.2.2.1 206 (fun _ => none), 0)
def hh_474 : zH := ((207, hh_473.1.2.1, 10683), hh_473.2.1, hh_473.2.2.1, zup hh_473.2.2.2.1 196 25 (some 206), 0)
def hh_475 : zH := ((208, (fun b => if b = 207 then (14, 8) else hh_474.1.2.1 b), 10691), zrow hh_474.2.1 207 (fun _ => 0), zrow hh_474.2.2.1 207 (fun _ => 0), zrow hh_474.2.2.2.1 207 (fun _ => none), 0)
def hh_476 : zH := ((208, hh_475.1.2.1, 10691), hh_475.2.1, hh_475.2.2.1, zup hh_475.2.2.2.1 196 28 (some 207), 0)
def hh_477 : zH := ((209, (fun b => if b = 208 then (14, 8) else hh_476.1.2.1 b), 10699), zrow hh_476.2.1 208 (fun _ => 0), zrow hh_476.2.2.1 208 (fun _ => 0), zrow hh_476.2.2.2.1 208 (fun _ => none), 0)
def hh_478 : zH := ((209, hh_477.1.2.1, 10699), hh_477.2.1, hh_477.2.2.1, zup hh_477.2.2.2.1 196 29 (some 208), 0)
def hh_479 : zH := ((210, (fun b => if b = 209 then (14, 40) else hh_478.1.2.1 b), 10739), zrow hh_478.2.1 209 (fun _ => 0), zrow hh_478.2.2.1 209 (fun _ => 0), zrow hh_478.2.2.2.1 209 (fun _ => none), 0)
def hh_480 : zH := ((210, hh_479.1.2.1, 10739), hh_479.2.1, hh_479.2.2.1, zup hh_479.2.2.2.1 196 30 (some 209), 0)
def hh_481 : zH := ((211, (fun b => if b = 210 then (14, 49) else hh_480.1.2.1 b), 10788), zrow hh_480.2.1 210 (fun _ => 0), zrow hh_480.2.2.1 210 (fun _ => 0), zrow hh_480.2.2.2.1 210 (fun _ => none), 0)
def hh_482 : zH := ((211, hh_481.1.2.1, 10788), hh_481.2.1, hh_481.2.2.1, zup hh_481.2.2.2.1 196 35 (some 210), 0)
def hh_483 : zH := ((212, (fun b => if b = 211 then (14, 7) else hh_482.1.2.1 b), 10795), zrow hh_482.2.1 211 (fun _ => 0), zrow hh_482.2.2.1 211 (fun _ => 0), zrow hh_482.2.2.2.1 211 (fun _ => none), 0)
def hh_484 : zH := ((212, hh_483.1.2.1, 10795), hh_483.2.1, hh_483.2.2.1, zup hh_483.2.2.2.1 196 36 (some 211), 0)
def hh_485 : zH := ((213, (fun b => if b = 212 then (14, 7) else hh_484.1.2.1 b), 10802), zrow hh_484.2.1 212 (fun _ => 0), zrow hh_484.2.2.1 212 (fun _ => 0), zrow hh_484.2.2.2.1 212 (fun _ => none), 0)
def hh_486 : zH := ((213, hh_485.1.2.1, 10802), hh_485.2.1, hh_485.2.2.1, zup hh_485.2.2.2.1 196 37 (some 212), 0)
def hh_487 : zH := ((214, (fun b => if b = 213 then (15, 1) else hh_486.1.2.1 b), 10803), zrow hh_486.2.1 213 (fun _ => 0), zrow hh_486.2.2.1 213 (fun _ => 0), zrow hh_486.2.2.2.1 213 (fun _ => none), 0)
end Pk10
section Pk11
/-! the constructors on the law's fresh heap, by program -/
set_option maxRecDepth 20000 in
theorem kc_3 (d : Nat) : zCv (d + 1) mX9_init [.inr (.inr (some 9))] hh_19 (fun h' => h' = hh_19) := by
  show zEx none (d + 1) mX9_init (0, [(0, .inr (.inr (some 9)))], [], hh_19) _
  refine ex_aload_n (pc' := 1) dX9_init_0 rfl rfl ?_
  refine ex_obj (pc' := 4) dX9_init_1 ml_9_1 (by decide) rfl ?_
  exact ex_vretV dX9_init_4 rfl rfl
set_option maxRecDepth 20000 in
theorem kc_4 (d : Nat) : zCv (d + 1) mX9_init [.inr (.inr (some 10))] hh_21 (fun h' => h' = hh_21) := by
  show zEx none (d + 1) mX9_init (0, [(0, .inr (.inr (some 10)))], [], hh_21) _
  refine ex_aload_n (pc' := 1) dX9_init_0 rfl rfl ?_
  refine ex_obj (pc' := 4) dX9_init_1 ml_9_1 (by decide) rfl ?_
  exact ex_vretV dX9_init_4 rfl rfl
set_option maxRecDepth 20000 in
theorem kc_5 (d : Nat) : zCv (d + 1) mX9_init [.inr (.inr (some 11))] hh_23 (fun h' => h' = hh_23) := by
  show zEx none (d + 1) mX9_init (0, [(0, .inr (.inr (some 11)))], [], hh_23) _
  refine ex_aload_n (pc' := 1) dX9_init_0 rfl rfl ?_
  refine ex_obj (pc' := 4) dX9_init_1 ml_9_1 (by decide) rfl ?_
  exact ex_vretV dX9_init_4 rfl rfl
set_option maxRecDepth 20000 in
theorem kc_6 (d : Nat) : zCv (d + 1) mX9_init [.inr (.inr (some 12))] hh_25 (fun h' => h' = hh_25) := by
  show zEx none (d + 1) mX9_init (0, [(0, .inr (.inr (some 12)))], [], hh_25) _
  refine ex_aload_n (pc' := 1) dX9_init_0 rfl rfl ?_
  refine ex_obj (pc' := 4) dX9_init_1 ml_9_1 (by decide) rfl ?_
  exact ex_vretV dX9_init_4 rfl rfl
set_option maxRecDepth 20000 in
theorem kc_7 (d : Nat) : zCv (d + 1) mX9_init [.inr (.inr (some 13))] hh_27 (fun h' => h' = hh_27) := by
  show zEx none (d + 1) mX9_init (0, [(0, .inr (.inr (some 13)))], [], hh_27) _
  refine ex_aload_n (pc' := 1) dX9_init_0 rfl rfl ?_
  refine ex_obj (pc' := 4) dX9_init_1 ml_9_1 (by decide) rfl ?_
  exact ex_vretV dX9_init_4 rfl rfl
set_option maxRecDepth 20000 in
theorem kc_8 (d : Nat) : zCv (d + 1) mX9_init [.inr (.inr (some 14))] hh_29 (fun h' => h' = hh_29) := by
  show zEx none (d + 1) mX9_init (0, [(0, .inr (.inr (some 14)))], [], hh_29) _
  refine ex_aload_n (pc' := 1) dX9_init_0 rfl rfl ?_
  refine ex_obj (pc' := 4) dX9_init_1 ml_9_1 (by decide) rfl ?_
  exact ex_vretV dX9_init_4 rfl rfl
set_option maxRecDepth 20000 in
theorem kc_9 (d : Nat) : zCv (d + 1) mX9_init [.inr (.inr (some 15))] hh_31 (fun h' => h' = hh_31) := by
  show zEx none (d + 1) mX9_init (0, [(0, .inr (.inr (some 15)))], [], hh_31) _
  refine ex_aload_n (pc' := 1) dX9_init_0 rfl rfl ?_
  refine ex_obj (pc' := 4) dX9_init_1 ml_9_1 (by decide) rfl ?_
  exact ex_vretV dX9_init_4 rfl rfl
set_option maxRecDepth 20000 in
theorem kc_10 (d : Nat) : zCv (d + 1) mX9_init [.inr (.inr (some 16))] hh_33 (fun h' => h' = hh_33) := by
  show zEx none (d + 1) mX9_init (0, [(0, .inr (.inr (some 16)))], [], hh_33) _
  refine ex_aload_n (pc' := 1) dX9_init_0 rfl rfl ?_
  refine ex_obj (pc' := 4) dX9_init_1 ml_9_1 (by decide) rfl ?_
  exact ex_vretV dX9_init_4 rfl rfl
set_option maxRecDepth 20000 in
theorem kc_11 (d : Nat) : zCv (d + 1) mX9_init [.inr (.inr (some 17))] hh_35 (fun h' => h' = hh_35) := by
  show zEx none (d + 1) mX9_init (0, [(0, .inr (.inr (some 17)))], [], hh_35) _
  refine ex_aload_n (pc' := 1) dX9_init_0 rfl rfl ?_
  refine ex_obj (pc' := 4) dX9_init_1 ml_9_1 (by decide) rfl ?_
  exact ex_vretV dX9_init_4 rfl rfl
set_option maxRecDepth 20000 in
theorem kc_12 (d : Nat) : zCv (d + 1) mX9_init [.inr (.inr (some 18))] hh_37 (fun h' => h' = hh_37) := by
  show zEx none (d + 1) mX9_init (0, [(0, .inr (.inr (some 18)))], [], hh_37) _
  refine ex_aload_n (pc' := 1) dX9_init_0 rfl rfl ?_
  refine ex_obj (pc' := 4) dX9_init_1 ml_9_1 (by decide) rfl ?_
  exact ex_vretV dX9_init_4 rfl rfl
set_option maxRecDepth 20000 in
theorem kc_13 (d : Nat) : zCv (d + 1) mX9_init [.inr (.inr (some 19))] hh_39 (fun h' => h' = hh_39) := by
  show zEx none (d + 1) mX9_init (0, [(0, .inr (.inr (some 19)))], [], hh_39) _
  refine ex_aload_n (pc' := 1) dX9_init_0 rfl rfl ?_
  refine ex_obj (pc' := 4) dX9_init_1 ml_9_1 (by decide) rfl ?_
  exact ex_vretV dX9_init_4 rfl rfl
set_option maxRecDepth 20000 in
theorem kc_14 (d : Nat) : zCv (d + 1) mX9_init [.inr (.inr (some 20))] hh_41 (fun h' => h' = hh_41) := by
  show zEx none (d + 1) mX9_init (0, [(0, .inr (.inr (some 20)))], [], hh_41) _
  refine ex_aload_n (pc' := 1) dX9_init_0 rfl rfl ?_
  refine ex_obj (pc' := 4) dX9_init_1 ml_9_1 (by decide) rfl ?_
  exact ex_vretV dX9_init_4 rfl rfl
set_option maxRecDepth 20000 in
theorem kc_15 (d : Nat) : zCv (d + 1) mX10_init [.inr (.inr (some 21))] hh_43 (fun h' => h' = hh_43) := by
  show zEx none (d + 1) mX10_init (0, [(0, .inr (.inr (some 21)))], [], hh_43) _
  refine ex_aload_n (pc' := 1) dX10_init_0 rfl rfl ?_
  refine ex_obj (pc' := 4) dX10_init_1 ml_10_1 (by decide) rfl ?_
  exact ex_vretV dX10_init_4 rfl rfl
set_option maxRecDepth 20000 in
theorem kc_16 (d : Nat) : zCv (d + 1) mX10_init [.inr (.inr (some 22))] hh_45 (fun h' => h' = hh_45) := by
  show zEx none (d + 1) mX10_init (0, [(0, .inr (.inr (some 22)))], [], hh_45) _
  refine ex_aload_n (pc' := 1) dX10_init_0 rfl rfl ?_
  refine ex_obj (pc' := 4) dX10_init_1 ml_10_1 (by decide) rfl ?_
  exact ex_vretV dX10_init_4 rfl rfl
set_option maxRecDepth 20000 in
theorem kc_17 (d : Nat) : zCv (d + 1) mX10_init [.inr (.inr (some 23))] hh_47 (fun h' => h' = hh_47) := by
  show zEx none (d + 1) mX10_init (0, [(0, .inr (.inr (some 23)))], [], hh_47) _
  refine ex_aload_n (pc' := 1) dX10_init_0 rfl rfl ?_
  refine ex_obj (pc' := 4) dX10_init_1 ml_10_1 (by decide) rfl ?_
  exact ex_vretV dX10_init_4 rfl rfl
set_option maxRecDepth 20000 in
theorem kc_18 (d : Nat) : zCv (d + 1) mX10_init [.inr (.inr (some 24))] hh_49 (fun h' => h' = hh_49) := by
  show zEx none (d + 1) mX10_init (0, [(0, .inr (.inr (some 24)))], [], hh_49) _
  refine ex_aload_n (pc' := 1) dX10_init_0 rfl rfl ?_
  refine ex_obj (pc' := 4) dX10_init_1 ml_10_1 (by decide) rfl ?_
  exact ex_vretV dX10_init_4 rfl rfl
set_option maxRecDepth 20000 in
theorem kc_19 (d : Nat) : zCv (d + 1) mX10_init [.inr (.inr (some 25))] hh_51 (fun h' => h' = hh_51) := by
  show zEx none (d + 1) mX10_init (0, [(0, .inr (.inr (some 25)))], [], hh_51) _
  refine ex_aload_n (pc' := 1) dX10_init_0 rfl rfl ?_
  refine ex_obj (pc' := 4) dX10_init_1 ml_10_1 (by decide) rfl ?_
  exact ex_vretV dX10_init_4 rfl rfl
set_option maxRecDepth 20000 in
theorem kc_20 (d : Nat) : zCv (d + 1) mX0_init [.inr (.inr (some 26))] hh_53 (fun h' => h' = hh_53) := by
  show zEx none (d + 1) mX0_init (0, [(0, .inr (.inr (some 26)))], [], hh_53) _
  refine ex_aload_n (pc' := 1) dX0_init_0 rfl rfl ?_
  refine ex_obj (pc' := 4) dX0_init_1 ml_0_1 (by decide) rfl ?_
  exact ex_vretV dX0_init_4 rfl rfl
set_option maxRecDepth 20000 in
theorem kc_21 (d : Nat) : zCv (d + 1) mX0_init [.inr (.inr (some 27))] hh_55 (fun h' => h' = hh_55) := by
  show zEx none (d + 1) mX0_init (0, [(0, .inr (.inr (some 27)))], [], hh_55) _
  refine ex_aload_n (pc' := 1) dX0_init_0 rfl rfl ?_
  refine ex_obj (pc' := 4) dX0_init_1 ml_0_1 (by decide) rfl ?_
  exact ex_vretV dX0_init_4 rfl rfl
set_option maxRecDepth 20000 in
theorem kc_22 (d : Nat) : zCv (d + 1) mX0_init [.inr (.inr (some 28))] hh_57 (fun h' => h' = hh_57) := by
  show zEx none (d + 1) mX0_init (0, [(0, .inr (.inr (some 28)))], [], hh_57) _
  refine ex_aload_n (pc' := 1) dX0_init_0 rfl rfl ?_
  refine ex_obj (pc' := 4) dX0_init_1 ml_0_1 (by decide) rfl ?_
  exact ex_vretV dX0_init_4 rfl rfl
set_option maxRecDepth 20000 in
theorem kc_23 (d : Nat) : zCv (d + 1) mX0_init [.inr (.inr (some 29))] hh_59 (fun h' => h' = hh_59) := by
  show zEx none (d + 1) mX0_init (0, [(0, .inr (.inr (some 29)))], [], hh_59) _
  refine ex_aload_n (pc' := 1) dX0_init_0 rfl rfl ?_
  refine ex_obj (pc' := 4) dX0_init_1 ml_0_1 (by decide) rfl ?_
  exact ex_vretV dX0_init_4 rfl rfl
set_option maxRecDepth 20000 in
theorem kc_24 (d : Nat) : zCv (d + 1) mX0_init [.inr (.inr (some 30))] hh_61 (fun h' => h' = hh_61) := by
  show zEx none (d + 1) mX0_init (0, [(0, .inr (.inr (some 30)))], [], hh_61) _
  refine ex_aload_n (pc' := 1) dX0_init_0 rfl rfl ?_
  refine ex_obj (pc' := 4) dX0_init_1 ml_0_1 (by decide) rfl ?_
  exact ex_vretV dX0_init_4 rfl rfl
set_option maxRecDepth 20000 in
theorem kc_25 (d : Nat) : zCv (d + 1) mX0_init [.inr (.inr (some 31))] hh_63 (fun h' => h' = hh_63) := by
  show zEx none (d + 1) mX0_init (0, [(0, .inr (.inr (some 31)))], [], hh_63) _
  refine ex_aload_n (pc' := 1) dX0_init_0 rfl rfl ?_
  refine ex_obj (pc' := 4) dX0_init_1 ml_0_1 (by decide) rfl ?_
  exact ex_vretV dX0_init_4 rfl rfl
set_option maxRecDepth 20000 in
theorem kc_26 (d : Nat) : zCv (d + 1) mX0_init [.inr (.inr (some 32))] hh_65 (fun h' => h' = hh_65) := by
  show zEx none (d + 1) mX0_init (0, [(0, .inr (.inr (some 32)))], [], hh_65) _
  refine ex_aload_n (pc' := 1) dX0_init_0 rfl rfl ?_
  refine ex_obj (pc' := 4) dX0_init_1 ml_0_1 (by decide) rfl ?_
  exact ex_vretV dX0_init_4 rfl rfl
set_option maxRecDepth 20000 in
theorem kc_27 (d : Nat) : zCv (d + 1) mX0_init [.inr (.inr (some 33))] hh_67 (fun h' => h' = hh_67) := by
  show zEx none (d + 1) mX0_init (0, [(0, .inr (.inr (some 33)))], [], hh_67) _
  refine ex_aload_n (pc' := 1) dX0_init_0 rfl rfl ?_
  refine ex_obj (pc' := 4) dX0_init_1 ml_0_1 (by decide) rfl ?_
  exact ex_vretV dX0_init_4 rfl rfl
set_option maxRecDepth 20000 in
theorem kc_28 (d : Nat) : zCv (d + 1) mX8_init [.inr (.inr (some 34))] hh_69 (fun h' => h' = hh_69) := by
  show zEx none (d + 1) mX8_init (0, [(0, .inr (.inr (some 34)))], [], hh_69) _
  refine ex_aload_n (pc' := 1) dX8_init_0 rfl rfl ?_
  refine ex_obj (pc' := 4) dX8_init_1 ml_8_1 (by decide) rfl ?_
  exact ex_vretV dX8_init_4 rfl rfl
set_option maxRecDepth 20000 in
theorem kc_29 (d : Nat) : zCv (d + 1) mX8_init [.inr (.inr (some 35))] hh_71 (fun h' => h' = hh_71) := by
  show zEx none (d + 1) mX8_init (0, [(0, .inr (.inr (some 35)))], [], hh_71) _
  refine ex_aload_n (pc' := 1) dX8_init_0 rfl rfl ?_
  refine ex_obj (pc' := 4) dX8_init_1 ml_8_1 (by decide) rfl ?_
  exact ex_vretV dX8_init_4 rfl rfl
set_option maxRecDepth 20000 in
theorem kc_30 (d : Nat) : zCv (d + 1) mX8_init [.inr (.inr (some 36))] hh_73 (fun h' => h' = hh_73) := by
  show zEx none (d + 1) mX8_init (0, [(0, .inr (.inr (some 36)))], [], hh_73) _
  refine ex_aload_n (pc' := 1) dX8_init_0 rfl rfl ?_
  refine ex_obj (pc' := 4) dX8_init_1 ml_8_1 (by decide) rfl ?_
  exact ex_vretV dX8_init_4 rfl rfl
set_option maxRecDepth 20000 in
theorem kc_31 (d : Nat) : zCv (d + 1) mX8_init [.inr (.inr (some 37))] hh_75 (fun h' => h' = hh_75) := by
  show zEx none (d + 1) mX8_init (0, [(0, .inr (.inr (some 37)))], [], hh_75) _
  refine ex_aload_n (pc' := 1) dX8_init_0 rfl rfl ?_
  refine ex_obj (pc' := 4) dX8_init_1 ml_8_1 (by decide) rfl ?_
  exact ex_vretV dX8_init_4 rfl rfl
set_option maxRecDepth 20000 in
theorem kc_32 (d : Nat) : zCv (d + 1) mX8_init [.inr (.inr (some 38))] hh_77 (fun h' => h' = hh_77) := by
  show zEx none (d + 1) mX8_init (0, [(0, .inr (.inr (some 38)))], [], hh_77) _
  refine ex_aload_n (pc' := 1) dX8_init_0 rfl rfl ?_
  refine ex_obj (pc' := 4) dX8_init_1 ml_8_1 (by decide) rfl ?_
  exact ex_vretV dX8_init_4 rfl rfl
set_option maxRecDepth 20000 in
theorem kc_33 (d : Nat) : zCv (d + 1) mX8_init [.inr (.inr (some 39))] hh_79 (fun h' => h' = hh_79) := by
  show zEx none (d + 1) mX8_init (0, [(0, .inr (.inr (some 39)))], [], hh_79) _
  refine ex_aload_n (pc' := 1) dX8_init_0 rfl rfl ?_
  refine ex_obj (pc' := 4) dX8_init_1 ml_8_1 (by decide) rfl ?_
  exact ex_vretV dX8_init_4 rfl rfl
set_option maxRecDepth 20000 in
theorem kc_34 (d : Nat) : zCv (d + 1) mX8_init [.inr (.inr (some 40))] hh_81 (fun h' => h' = hh_81) := by
  show zEx none (d + 1) mX8_init (0, [(0, .inr (.inr (some 40)))], [], hh_81) _
  refine ex_aload_n (pc' := 1) dX8_init_0 rfl rfl ?_
  refine ex_obj (pc' := 4) dX8_init_1 ml_8_1 (by decide) rfl ?_
  exact ex_vretV dX8_init_4 rfl rfl
set_option maxRecDepth 20000 in
theorem kc_35 (d : Nat) : zCv (d + 1) mX8_init [.inr (.inr (some 41))] hh_83 (fun h' => h' = hh_83) := by
  show zEx none (d + 1) mX8_init (0, [(0, .inr (.inr (some 41)))], [], hh_83) _
  refine ex_aload_n (pc' := 1) dX8_init_0 rfl rfl ?_
  refine ex_obj (pc' := 4) dX8_init_1 ml_8_1 (by decide) rfl ?_
  exact ex_vretV dX8_init_4 rfl rfl
set_option maxRecDepth 20000 in
theorem kc_2 (d : Nat) : zCv (d + 2) mX4_init [.inr (.inr (some 2))] hh_6 (fun h' => h' = hh_84) := by
  show zEx none (d + 2) mX4_init (0, [(0, .inr (.inr (some 2)))], [], hh_6) _
  refine ex_aload_n (pc' := 1) dX4_init_0 rfl rfl ?_
  refine ex_obj (pc' := 4) dX4_init_1 ml_4_3 (by decide) rfl ?_
  refine ex_aload_n (pc' := 5) dX4_init_4 rfl rfl ?_
  refine ex_bipush (v := 7) (pc' := 7) dX4_init_5 (by decide) rfl ?_
  refine en_narrI (pc' := 9) (a := 3) (nn := 7) (h2 := hh_7) dX4_init_7 (by decide +kernel) rfl rfl ?_
  refine en_putR (pc' := 12) (n := 15) (h2 := hh_8) dX4_init_9 fl_4_9 (by decide +kernel) (by decide) (by decide) rfl rfl ?_
  refine ex_aload_n (pc' := 13) dX4_init_12 rfl rfl ?_
  refine ex_bipush (v := 7) (pc' := 15) dX4_init_13 (by decide) rfl ?_
  refine en_narrI (pc' := 17) (a := 4) (nn := 7) (h2 := hh_9) dX4_init_15 (by decide +kernel) rfl rfl ?_
  refine en_putR (pc' := 20) (n := 15) (h2 := hh_10) dX4_init_17 fl_4_15 (by decide +kernel) (by decide) (by decide) rfl rfl ?_
  refine ex_aload_n (pc' := 21) dX4_init_20 rfl rfl ?_
  refine ex_bipush (v := 12) (pc' := 23) dX4_init_21 (by decide) rfl ?_
  refine en_anarr (pc' := 26) (a := 5) (nn := 12) (ak := 19) (h2 := hh_11) dX4_init_23 kl_4_18 (by decide +kernel) rfl rfl ?_
  refine en_putR (pc' := 29) (n := 15) (h2 := hh_12) dX4_init_26 fl_4_20 (by decide +kernel) (by decide) (by decide) rfl rfl ?_
  refine ex_aload_n (pc' := 30) dX4_init_29 rfl rfl ?_
  refine ex_iconst (v := 5) (pc' := 31) dX4_init_30 (by decide) rfl ?_
  refine en_anarr (pc' := 34) (a := 6) (nn := 5) (ak := 20) (h2 := hh_13) dX4_init_31 kl_4_24 (by decide +kernel) rfl rfl ?_
  refine en_putR (pc' := 37) (n := 15) (h2 := hh_14) dX4_init_34 fl_4_26 (by decide +kernel) (by decide) (by decide) rfl rfl ?_
  refine ex_aload_n (pc' := 38) dX4_init_37 rfl rfl ?_
  refine ex_bipush (v := 8) (pc' := 40) dX4_init_38 (by decide) rfl ?_
  refine en_anarr (pc' := 43) (a := 7) (nn := 8) (ak := 16) (h2 := hh_15) dX4_init_40 kl_4_30 (by decide +kernel) rfl rfl ?_
  refine en_putR (pc' := 46) (n := 15) (h2 := hh_16) dX4_init_43 fl_4_32 (by decide +kernel) (by decide) (by decide) rfl rfl ?_
  refine ex_aload_n (pc' := 47) dX4_init_46 rfl rfl ?_
  refine ex_bipush (v := 8) (pc' := 49) dX4_init_47 (by decide) rfl ?_
  refine en_anarr (pc' := 52) (a := 8) (nn := 8) (ak := 18) (h2 := hh_17) dX4_init_49 kl_4_36 (by decide +kernel) rfl rfl ?_
  refine en_putR (pc' := 55) (n := 15) (h2 := hh_18) dX4_init_52 fl_4_38 (by decide +kernel) (by decide) (by decide) rfl rfl ?_
  refine ex_iconst (v := 0) (pc' := 56) dX4_init_55 (by decide) rfl ?_
  refine ex_istore_n (pc' := 57) (ls' := [(1, .inl 0), (0, .inr (.inr (some 2)))]) dX4_init_56 (by decide) rfl rfl ?_
  refine ex_iload_n (pc' := 58) dX4_init_57 rfl rfl ?_
  refine ex_bipush (v := 12) (pc' := 60) dX4_init_58 (by decide) rfl ?_
  refine ex_icmp_f (pc' := 63) dX4_init_60 (by decide) (by decide) rfl ?_
  refine ex_aload_n (pc' := 64) dX4_init_63 rfl rfl ?_
  refine ex_getR (pc' := 67) (n := 15) (r := 5) dX4_init_64 fl_4_20 (by decide +kernel) (by decide) (by decide +kernel) rfl ?_
  refine ex_iload_n (pc' := 68) dX4_init_67 rfl rfl ?_
  refine en_new (pc' := 71) (a := 9) (nf := 4) (h2 := hh_19) dX4_init_68 kl_4_18 (by decide +kernel) rfl rfl ?_
  refine ex_dup (pc' := 72) dX4_init_71 rfl rfl ?_
  refine en_calliV (pc' := 75) (a := 9) (n := 4) (h2 := hh_19) (vs := []) (rest := [.inr (.inr (some 9)), .inl 0, .inr (.inr (some 5))]) dX4_init_72 ml_4_42 (by decide) ⟨by decide, by decide⟩ rfl rfl (by decide +kernel) (by decide) (by decide) rfl (kc_3 _) ?_
  refine en_aast (pc' := 76) (kd := 19) (n := 12) (nv := 4) (jj := 0) (h2 := hh_20) dX4_init_75 (by decide +kernel) (by decide +kernel) (by decide) (by decide) rfl rfl ?_
  refine ex_iinc (pc' := 79) (v := 1) (ls' := [(1, .inl 1), (0, .inr (.inr (some 2)))]) dX4_init_76 rfl (by decide) (by decide) rfl rfl ?_
  refine ex_goto (pc' := 57) dX4_init_79 (by decide) ?_
  refine ex_iload_n (pc' := 58) dX4_init_57 rfl rfl ?_
  refine ex_bipush (v := 12) (pc' := 60) dX4_init_58 (by decide) rfl ?_
  refine ex_icmp_f (pc' := 63) dX4_init_60 (by decide) (by decide) rfl ?_
  refine ex_aload_n (pc' := 64) dX4_init_63 rfl rfl ?_
  refine ex_getR (pc' := 67) (n := 15) (r := 5) dX4_init_64 fl_4_20 (by decide +kernel) (by decide) (by decide +kernel) rfl ?_
  refine ex_iload_n (pc' := 68) dX4_init_67 rfl rfl ?_
  refine en_new (pc' := 71) (a := 10) (nf := 4) (h2 := hh_21) dX4_init_68 kl_4_18 (by decide +kernel) rfl rfl ?_
  refine ex_dup (pc' := 72) dX4_init_71 rfl rfl ?_
  refine en_calliV (pc' := 75) (a := 10) (n := 4) (h2 := hh_21) (vs := []) (rest := [.inr (.inr (some 10)), .inl 1, .inr (.inr (some 5))]) dX4_init_72 ml_4_42 (by decide) ⟨by decide, by decide⟩ rfl rfl (by decide +kernel) (by decide) (by decide) rfl (kc_4 _) ?_
  refine en_aast (pc' := 76) (kd := 19) (n := 12) (nv := 4) (jj := 1) (h2 := hh_22) dX4_init_75 (by decide +kernel) (by decide +kernel) (by decide) (by decide) rfl rfl ?_
  refine ex_iinc (pc' := 79) (v := 2) (ls' := [(1, .inl 2), (0, .inr (.inr (some 2)))]) dX4_init_76 rfl (by decide) (by decide) rfl rfl ?_
  refine ex_goto (pc' := 57) dX4_init_79 (by decide) ?_
  refine ex_iload_n (pc' := 58) dX4_init_57 rfl rfl ?_
  refine ex_bipush (v := 12) (pc' := 60) dX4_init_58 (by decide) rfl ?_
  refine ex_icmp_f (pc' := 63) dX4_init_60 (by decide) (by decide) rfl ?_
  refine ex_aload_n (pc' := 64) dX4_init_63 rfl rfl ?_
  refine ex_getR (pc' := 67) (n := 15) (r := 5) dX4_init_64 fl_4_20 (by decide +kernel) (by decide) (by decide +kernel) rfl ?_
  refine ex_iload_n (pc' := 68) dX4_init_67 rfl rfl ?_
  refine en_new (pc' := 71) (a := 11) (nf := 4) (h2 := hh_23) dX4_init_68 kl_4_18 (by decide +kernel) rfl rfl ?_
  refine ex_dup (pc' := 72) dX4_init_71 rfl rfl ?_
  refine en_calliV (pc' := 75) (a := 11) (n := 4) (h2 := hh_23) (vs := []) (rest := [.inr (.inr (some 11)), .inl 2, .inr (.inr (some 5))]) dX4_init_72 ml_4_42 (by decide) ⟨by decide, by decide⟩ rfl rfl (by decide +kernel) (by decide) (by decide) rfl (kc_5 _) ?_
  refine en_aast (pc' := 76) (kd := 19) (n := 12) (nv := 4) (jj := 2) (h2 := hh_24) dX4_init_75 (by decide +kernel) (by decide +kernel) (by decide) (by decide) rfl rfl ?_
  refine ex_iinc (pc' := 79) (v := 3) (ls' := [(1, .inl 3), (0, .inr (.inr (some 2)))]) dX4_init_76 rfl (by decide) (by decide) rfl rfl ?_
  refine ex_goto (pc' := 57) dX4_init_79 (by decide) ?_
  refine ex_iload_n (pc' := 58) dX4_init_57 rfl rfl ?_
  refine ex_bipush (v := 12) (pc' := 60) dX4_init_58 (by decide) rfl ?_
  refine ex_icmp_f (pc' := 63) dX4_init_60 (by decide) (by decide) rfl ?_
  refine ex_aload_n (pc' := 64) dX4_init_63 rfl rfl ?_
  refine ex_getR (pc' := 67) (n := 15) (r := 5) dX4_init_64 fl_4_20 (by decide +kernel) (by decide) (by decide +kernel) rfl ?_
  refine ex_iload_n (pc' := 68) dX4_init_67 rfl rfl ?_
  refine en_new (pc' := 71) (a := 12) (nf := 4) (h2 := hh_25) dX4_init_68 kl_4_18 (by decide +kernel) rfl rfl ?_
  refine ex_dup (pc' := 72) dX4_init_71 rfl rfl ?_
  refine en_calliV (pc' := 75) (a := 12) (n := 4) (h2 := hh_25) (vs := []) (rest := [.inr (.inr (some 12)), .inl 3, .inr (.inr (some 5))]) dX4_init_72 ml_4_42 (by decide) ⟨by decide, by decide⟩ rfl rfl (by decide +kernel) (by decide) (by decide) rfl (kc_6 _) ?_
  refine en_aast (pc' := 76) (kd := 19) (n := 12) (nv := 4) (jj := 3) (h2 := hh_26) dX4_init_75 (by decide +kernel) (by decide +kernel) (by decide) (by decide) rfl rfl ?_
  refine ex_iinc (pc' := 79) (v := 4) (ls' := [(1, .inl 4), (0, .inr (.inr (some 2)))]) dX4_init_76 rfl (by decide) (by decide) rfl rfl ?_
  refine ex_goto (pc' := 57) dX4_init_79 (by decide) ?_
  refine ex_iload_n (pc' := 58) dX4_init_57 rfl rfl ?_
  refine ex_bipush (v := 12) (pc' := 60) dX4_init_58 (by decide) rfl ?_
  refine ex_icmp_f (pc' := 63) dX4_init_60 (by decide) (by decide) rfl ?_
  refine ex_aload_n (pc' := 64) dX4_init_63 rfl rfl ?_
  refine ex_getR (pc' := 67) (n := 15) (r := 5) dX4_init_64 fl_4_20 (by decide +kernel) (by decide) (by decide +kernel) rfl ?_
  refine ex_iload_n (pc' := 68) dX4_init_67 rfl rfl ?_
  refine en_new (pc' := 71) (a := 13) (nf := 4) (h2 := hh_27) dX4_init_68 kl_4_18 (by decide +kernel) rfl rfl ?_
  refine ex_dup (pc' := 72) dX4_init_71 rfl rfl ?_
  refine en_calliV (pc' := 75) (a := 13) (n := 4) (h2 := hh_27) (vs := []) (rest := [.inr (.inr (some 13)), .inl 4, .inr (.inr (some 5))]) dX4_init_72 ml_4_42 (by decide) ⟨by decide, by decide⟩ rfl rfl (by decide +kernel) (by decide) (by decide) rfl (kc_7 _) ?_
  refine en_aast (pc' := 76) (kd := 19) (n := 12) (nv := 4) (jj := 4) (h2 := hh_28) dX4_init_75 (by decide +kernel) (by decide +kernel) (by decide) (by decide) rfl rfl ?_
  refine ex_iinc (pc' := 79) (v := 5) (ls' := [(1, .inl 5), (0, .inr (.inr (some 2)))]) dX4_init_76 rfl (by decide) (by decide) rfl rfl ?_
  refine ex_goto (pc' := 57) dX4_init_79 (by decide) ?_
  refine ex_iload_n (pc' := 58) dX4_init_57 rfl rfl ?_
  refine ex_bipush (v := 12) (pc' := 60) dX4_init_58 (by decide) rfl ?_
  refine ex_icmp_f (pc' := 63) dX4_init_60 (by decide) (by decide) rfl ?_
  refine ex_aload_n (pc' := 64) dX4_init_63 rfl rfl ?_
  refine ex_getR (pc' := 67) (n := 15) (r := 5) dX4_init_64 fl_4_20 (by decide +kernel) (by decide) (by decide +kernel) rfl ?_
  refine ex_iload_n (pc' := 68) dX4_init_67 rfl rfl ?_
  refine en_new (pc' := 71) (a := 14) (nf := 4) (h2 := hh_29) dX4_init_68 kl_4_18 (by decide +kernel) rfl rfl ?_
  refine ex_dup (pc' := 72) dX4_init_71 rfl rfl ?_
  refine en_calliV (pc' := 75) (a := 14) (n := 4) (h2 := hh_29) (vs := []) (rest := [.inr (.inr (some 14)), .inl 5, .inr (.inr (some 5))]) dX4_init_72 ml_4_42 (by decide) ⟨by decide, by decide⟩ rfl rfl (by decide +kernel) (by decide) (by decide) rfl (kc_8 _) ?_
  refine en_aast (pc' := 76) (kd := 19) (n := 12) (nv := 4) (jj := 5) (h2 := hh_30) dX4_init_75 (by decide +kernel) (by decide +kernel) (by decide) (by decide) rfl rfl ?_
  refine ex_iinc (pc' := 79) (v := 6) (ls' := [(1, .inl 6), (0, .inr (.inr (some 2)))]) dX4_init_76 rfl (by decide) (by decide) rfl rfl ?_
  refine ex_goto (pc' := 57) dX4_init_79 (by decide) ?_
  refine ex_iload_n (pc' := 58) dX4_init_57 rfl rfl ?_
  refine ex_bipush (v := 12) (pc' := 60) dX4_init_58 (by decide) rfl ?_
  refine ex_icmp_f (pc' := 63) dX4_init_60 (by decide) (by decide) rfl ?_
  refine ex_aload_n (pc' := 64) dX4_init_63 rfl rfl ?_
  refine ex_getR (pc' := 67) (n := 15) (r := 5) dX4_init_64 fl_4_20 (by decide +kernel) (by decide) (by decide +kernel) rfl ?_
  refine ex_iload_n (pc' := 68) dX4_init_67 rfl rfl ?_
  refine en_new (pc' := 71) (a := 15) (nf := 4) (h2 := hh_31) dX4_init_68 kl_4_18 (by decide +kernel) rfl rfl ?_
  refine ex_dup (pc' := 72) dX4_init_71 rfl rfl ?_
  refine en_calliV (pc' := 75) (a := 15) (n := 4) (h2 := hh_31) (vs := []) (rest := [.inr (.inr (some 15)), .inl 6, .inr (.inr (some 5))]) dX4_init_72 ml_4_42 (by decide) ⟨by decide, by decide⟩ rfl rfl (by decide +kernel) (by decide) (by decide) rfl (kc_9 _) ?_
  refine en_aast (pc' := 76) (kd := 19) (n := 12) (nv := 4) (jj := 6) (h2 := hh_32) dX4_init_75 (by decide +kernel) (by decide +kernel) (by decide) (by decide) rfl rfl ?_
  refine ex_iinc (pc' := 79) (v := 7) (ls' := [(1, .inl 7), (0, .inr (.inr (some 2)))]) dX4_init_76 rfl (by decide) (by decide) rfl rfl ?_
  refine ex_goto (pc' := 57) dX4_init_79 (by decide) ?_
  refine ex_iload_n (pc' := 58) dX4_init_57 rfl rfl ?_
  refine ex_bipush (v := 12) (pc' := 60) dX4_init_58 (by decide) rfl ?_
  refine ex_icmp_f (pc' := 63) dX4_init_60 (by decide) (by decide) rfl ?_
  refine ex_aload_n (pc' := 64) dX4_init_63 rfl rfl ?_
  refine ex_getR (pc' := 67) (n := 15) (r := 5) dX4_init_64 fl_4_20 (by decide +kernel) (by decide) (by decide +kernel) rfl ?_
  refine ex_iload_n (pc' := 68) dX4_init_67 rfl rfl ?_
  refine en_new (pc' := 71) (a := 16) (nf := 4) (h2 := hh_33) dX4_init_68 kl_4_18 (by decide +kernel) rfl rfl ?_
  refine ex_dup (pc' := 72) dX4_init_71 rfl rfl ?_
  refine en_calliV (pc' := 75) (a := 16) (n := 4) (h2 := hh_33) (vs := []) (rest := [.inr (.inr (some 16)), .inl 7, .inr (.inr (some 5))]) dX4_init_72 ml_4_42 (by decide) ⟨by decide, by decide⟩ rfl rfl (by decide +kernel) (by decide) (by decide) rfl (kc_10 _) ?_
  refine en_aast (pc' := 76) (kd := 19) (n := 12) (nv := 4) (jj := 7) (h2 := hh_34) dX4_init_75 (by decide +kernel) (by decide +kernel) (by decide) (by decide) rfl rfl ?_
  refine ex_iinc (pc' := 79) (v := 8) (ls' := [(1, .inl 8), (0, .inr (.inr (some 2)))]) dX4_init_76 rfl (by decide) (by decide) rfl rfl ?_
  refine ex_goto (pc' := 57) dX4_init_79 (by decide) ?_
  refine ex_iload_n (pc' := 58) dX4_init_57 rfl rfl ?_
  refine ex_bipush (v := 12) (pc' := 60) dX4_init_58 (by decide) rfl ?_
  refine ex_icmp_f (pc' := 63) dX4_init_60 (by decide) (by decide) rfl ?_
  refine ex_aload_n (pc' := 64) dX4_init_63 rfl rfl ?_
  refine ex_getR (pc' := 67) (n := 15) (r := 5) dX4_init_64 fl_4_20 (by decide +kernel) (by decide) (by decide +kernel) rfl ?_
  refine ex_iload_n (pc' := 68) dX4_init_67 rfl rfl ?_
  refine en_new (pc' := 71) (a := 17) (nf := 4) (h2 := hh_35) dX4_init_68 kl_4_18 (by decide +kernel) rfl rfl ?_
  refine ex_dup (pc' := 72) dX4_init_71 rfl rfl ?_
  refine en_calliV (pc' := 75) (a := 17) (n := 4) (h2 := hh_35) (vs := []) (rest := [.inr (.inr (some 17)), .inl 8, .inr (.inr (some 5))]) dX4_init_72 ml_4_42 (by decide) ⟨by decide, by decide⟩ rfl rfl (by decide +kernel) (by decide) (by decide) rfl (kc_11 _) ?_
  refine en_aast (pc' := 76) (kd := 19) (n := 12) (nv := 4) (jj := 8) (h2 := hh_36) dX4_init_75 (by decide +kernel) (by decide +kernel) (by decide) (by decide) rfl rfl ?_
  refine ex_iinc (pc' := 79) (v := 9) (ls' := [(1, .inl 9), (0, .inr (.inr (some 2)))]) dX4_init_76 rfl (by decide) (by decide) rfl rfl ?_
  refine ex_goto (pc' := 57) dX4_init_79 (by decide) ?_
  refine ex_iload_n (pc' := 58) dX4_init_57 rfl rfl ?_
  refine ex_bipush (v := 12) (pc' := 60) dX4_init_58 (by decide) rfl ?_
  refine ex_icmp_f (pc' := 63) dX4_init_60 (by decide) (by decide) rfl ?_
  refine ex_aload_n (pc' := 64) dX4_init_63 rfl rfl ?_
  refine ex_getR (pc' := 67) (n := 15) (r := 5) dX4_init_64 fl_4_20 (by decide +kernel) (by decide) (by decide +kernel) rfl ?_
  refine ex_iload_n (pc' := 68) dX4_init_67 rfl rfl ?_
  refine en_new (pc' := 71) (a := 18) (nf := 4) (h2 := hh_37) dX4_init_68 kl_4_18 (by decide +kernel) rfl rfl ?_
  refine ex_dup (pc' := 72) dX4_init_71 rfl rfl ?_
  refine en_calliV (pc' := 75) (a := 18) (n := 4) (h2 := hh_37) (vs := []) (rest := [.inr (.inr (some 18)), .inl 9, .inr (.inr (some 5))]) dX4_init_72 ml_4_42 (by decide) ⟨by decide, by decide⟩ rfl rfl (by decide +kernel) (by decide) (by decide) rfl (kc_12 _) ?_
  refine en_aast (pc' := 76) (kd := 19) (n := 12) (nv := 4) (jj := 9) (h2 := hh_38) dX4_init_75 (by decide +kernel) (by decide +kernel) (by decide) (by decide) rfl rfl ?_
  refine ex_iinc (pc' := 79) (v := 10) (ls' := [(1, .inl 10), (0, .inr (.inr (some 2)))]) dX4_init_76 rfl (by decide) (by decide) rfl rfl ?_
  refine ex_goto (pc' := 57) dX4_init_79 (by decide) ?_
  refine ex_iload_n (pc' := 58) dX4_init_57 rfl rfl ?_
  refine ex_bipush (v := 12) (pc' := 60) dX4_init_58 (by decide) rfl ?_
  refine ex_icmp_f (pc' := 63) dX4_init_60 (by decide) (by decide) rfl ?_
  refine ex_aload_n (pc' := 64) dX4_init_63 rfl rfl ?_
  refine ex_getR (pc' := 67) (n := 15) (r := 5) dX4_init_64 fl_4_20 (by decide +kernel) (by decide) (by decide +kernel) rfl ?_
  refine ex_iload_n (pc' := 68) dX4_init_67 rfl rfl ?_
  refine en_new (pc' := 71) (a := 19) (nf := 4) (h2 := hh_39) dX4_init_68 kl_4_18 (by decide +kernel) rfl rfl ?_
  refine ex_dup (pc' := 72) dX4_init_71 rfl rfl ?_
  refine en_calliV (pc' := 75) (a := 19) (n := 4) (h2 := hh_39) (vs := []) (rest := [.inr (.inr (some 19)), .inl 10, .inr (.inr (some 5))]) dX4_init_72 ml_4_42 (by decide) ⟨by decide, by decide⟩ rfl rfl (by decide +kernel) (by decide) (by decide) rfl (kc_13 _) ?_
  refine en_aast (pc' := 76) (kd := 19) (n := 12) (nv := 4) (jj := 10) (h2 := hh_40) dX4_init_75 (by decide +kernel) (by decide +kernel) (by decide) (by decide) rfl rfl ?_
  refine ex_iinc (pc' := 79) (v := 11) (ls' := [(1, .inl 11), (0, .inr (.inr (some 2)))]) dX4_init_76 rfl (by decide) (by decide) rfl rfl ?_
  refine ex_goto (pc' := 57) dX4_init_79 (by decide) ?_
  refine ex_iload_n (pc' := 58) dX4_init_57 rfl rfl ?_
  refine ex_bipush (v := 12) (pc' := 60) dX4_init_58 (by decide) rfl ?_
  refine ex_icmp_f (pc' := 63) dX4_init_60 (by decide) (by decide) rfl ?_
  refine ex_aload_n (pc' := 64) dX4_init_63 rfl rfl ?_
  refine ex_getR (pc' := 67) (n := 15) (r := 5) dX4_init_64 fl_4_20 (by decide +kernel) (by decide) (by decide +kernel) rfl ?_
  refine ex_iload_n (pc' := 68) dX4_init_67 rfl rfl ?_
  refine en_new (pc' := 71) (a := 20) (nf := 4) (h2 := hh_41) dX4_init_68 kl_4_18 (by decide +kernel) rfl rfl ?_
  refine ex_dup (pc' := 72) dX4_init_71 rfl rfl ?_
  refine en_calliV (pc' := 75) (a := 20) (n := 4) (h2 := hh_41) (vs := []) (rest := [.inr (.inr (some 20)), .inl 11, .inr (.inr (some 5))]) dX4_init_72 ml_4_42 (by decide) ⟨by decide, by decide⟩ rfl rfl (by decide +kernel) (by decide) (by decide) rfl (kc_14 _) ?_
  refine en_aast (pc' := 76) (kd := 19) (n := 12) (nv := 4) (jj := 11) (h2 := hh_42) dX4_init_75 (by decide +kernel) (by decide +kernel) (by decide) (by decide) rfl rfl ?_
  refine ex_iinc (pc' := 79) (v := 12) (ls' := [(1, .inl 12), (0, .inr (.inr (some 2)))]) dX4_init_76 rfl (by decide) (by decide) rfl rfl ?_
  refine ex_goto (pc' := 57) dX4_init_79 (by decide) ?_
  refine ex_iload_n (pc' := 58) dX4_init_57 rfl rfl ?_
  refine ex_bipush (v := 12) (pc' := 60) dX4_init_58 (by decide) rfl ?_
  refine ex_icmp_t (pc' := 82) dX4_init_60 (by decide) (by decide) ?_
  refine ex_iconst (v := 0) (pc' := 83) dX4_init_82 (by decide) rfl ?_
  refine ex_istore_n (pc' := 84) (ls' := [(1, .inl 0), (0, .inr (.inr (some 2)))]) dX4_init_83 (by decide) rfl rfl ?_
  refine ex_iload_n (pc' := 85) dX4_init_84 rfl rfl ?_
  refine ex_iconst (v := 5) (pc' := 86) dX4_init_85 (by decide) rfl ?_
  refine ex_icmp_f (pc' := 89) dX4_init_86 (by decide) (by decide) rfl ?_
  refine ex_aload_n (pc' := 90) dX4_init_89 rfl rfl ?_
  refine ex_getR (pc' := 93) (n := 15) (r := 6) dX4_init_90 fl_4_26 (by decide +kernel) (by decide) (by decide +kernel) rfl ?_
  refine ex_iload_n (pc' := 94) dX4_init_93 rfl rfl ?_
  refine en_new (pc' := 97) (a := 21) (nf := 4) (h2 := hh_43) dX4_init_94 kl_4_24 (by decide +kernel) rfl rfl ?_
  refine ex_dup (pc' := 98) dX4_init_97 rfl rfl ?_
  refine en_calliV (pc' := 101) (a := 21) (n := 4) (h2 := hh_43) (vs := []) (rest := [.inr (.inr (some 21)), .inl 0, .inr (.inr (some 6))]) dX4_init_98 ml_4_43 (by decide) ⟨by decide, by decide⟩ rfl rfl (by decide +kernel) (by decide) (by decide) rfl (kc_15 _) ?_
  refine en_aast (pc' := 102) (kd := 20) (n := 5) (nv := 4) (jj := 0) (h2 := hh_44) dX4_init_101 (by decide +kernel) (by decide +kernel) (by decide) (by decide) rfl rfl ?_
  refine ex_iinc (pc' := 105) (v := 1) (ls' := [(1, .inl 1), (0, .inr (.inr (some 2)))]) dX4_init_102 rfl (by decide) (by decide) rfl rfl ?_
  refine ex_goto (pc' := 84) dX4_init_105 (by decide) ?_
  refine ex_iload_n (pc' := 85) dX4_init_84 rfl rfl ?_
  refine ex_iconst (v := 5) (pc' := 86) dX4_init_85 (by decide) rfl ?_
  refine ex_icmp_f (pc' := 89) dX4_init_86 (by decide) (by decide) rfl ?_
  refine ex_aload_n (pc' := 90) dX4_init_89 rfl rfl ?_
  refine ex_getR (pc' := 93) (n := 15) (r := 6) dX4_init_90 fl_4_26 (by decide +kernel) (by decide) (by decide +kernel) rfl ?_
  refine ex_iload_n (pc' := 94) dX4_init_93 rfl rfl ?_
  refine en_new (pc' := 97) (a := 22) (nf := 4) (h2 := hh_45) dX4_init_94 kl_4_24 (by decide +kernel) rfl rfl ?_
  refine ex_dup (pc' := 98) dX4_init_97 rfl rfl ?_
  refine en_calliV (pc' := 101) (a := 22) (n := 4) (h2 := hh_45) (vs := []) (rest := [.inr (.inr (some 22)), .inl 1, .inr (.inr (some 6))]) dX4_init_98 ml_4_43 (by decide) ⟨by decide, by decide⟩ rfl rfl (by decide +kernel) (by decide) (by decide) rfl (kc_16 _) ?_
  refine en_aast (pc' := 102) (kd := 20) (n := 5) (nv := 4) (jj := 1) (h2 := hh_46) dX4_init_101 (by decide +kernel) (by decide +kernel) (by decide) (by decide) rfl rfl ?_
  refine ex_iinc (pc' := 105) (v := 2) (ls' := [(1, .inl 2), (0, .inr (.inr (some 2)))]) dX4_init_102 rfl (by decide) (by decide) rfl rfl ?_
  refine ex_goto (pc' := 84) dX4_init_105 (by decide) ?_
  refine ex_iload_n (pc' := 85) dX4_init_84 rfl rfl ?_
  refine ex_iconst (v := 5) (pc' := 86) dX4_init_85 (by decide) rfl ?_
  refine ex_icmp_f (pc' := 89) dX4_init_86 (by decide) (by decide) rfl ?_
  refine ex_aload_n (pc' := 90) dX4_init_89 rfl rfl ?_
  refine ex_getR (pc' := 93) (n := 15) (r := 6) dX4_init_90 fl_4_26 (by decide +kernel) (by decide) (by decide +kernel) rfl ?_
  refine ex_iload_n (pc' := 94) dX4_init_93 rfl rfl ?_
  refine en_new (pc' := 97) (a := 23) (nf := 4) (h2 := hh_47) dX4_init_94 kl_4_24 (by decide +kernel) rfl rfl ?_
  refine ex_dup (pc' := 98) dX4_init_97 rfl rfl ?_
  refine en_calliV (pc' := 101) (a := 23) (n := 4) (h2 := hh_47) (vs := []) (rest := [.inr (.inr (some 23)), .inl 2, .inr (.inr (some 6))]) dX4_init_98 ml_4_43 (by decide) ⟨by decide, by decide⟩ rfl rfl (by decide +kernel) (by decide) (by decide) rfl (kc_17 _) ?_
  refine en_aast (pc' := 102) (kd := 20) (n := 5) (nv := 4) (jj := 2) (h2 := hh_48) dX4_init_101 (by decide +kernel) (by decide +kernel) (by decide) (by decide) rfl rfl ?_
  refine ex_iinc (pc' := 105) (v := 3) (ls' := [(1, .inl 3), (0, .inr (.inr (some 2)))]) dX4_init_102 rfl (by decide) (by decide) rfl rfl ?_
  refine ex_goto (pc' := 84) dX4_init_105 (by decide) ?_
  refine ex_iload_n (pc' := 85) dX4_init_84 rfl rfl ?_
  refine ex_iconst (v := 5) (pc' := 86) dX4_init_85 (by decide) rfl ?_
  refine ex_icmp_f (pc' := 89) dX4_init_86 (by decide) (by decide) rfl ?_
  refine ex_aload_n (pc' := 90) dX4_init_89 rfl rfl ?_
  refine ex_getR (pc' := 93) (n := 15) (r := 6) dX4_init_90 fl_4_26 (by decide +kernel) (by decide) (by decide +kernel) rfl ?_
  refine ex_iload_n (pc' := 94) dX4_init_93 rfl rfl ?_
  refine en_new (pc' := 97) (a := 24) (nf := 4) (h2 := hh_49) dX4_init_94 kl_4_24 (by decide +kernel) rfl rfl ?_
  refine ex_dup (pc' := 98) dX4_init_97 rfl rfl ?_
  refine en_calliV (pc' := 101) (a := 24) (n := 4) (h2 := hh_49) (vs := []) (rest := [.inr (.inr (some 24)), .inl 3, .inr (.inr (some 6))]) dX4_init_98 ml_4_43 (by decide) ⟨by decide, by decide⟩ rfl rfl (by decide +kernel) (by decide) (by decide) rfl (kc_18 _) ?_
  refine en_aast (pc' := 102) (kd := 20) (n := 5) (nv := 4) (jj := 3) (h2 := hh_50) dX4_init_101 (by decide +kernel) (by decide +kernel) (by decide) (by decide) rfl rfl ?_
  refine ex_iinc (pc' := 105) (v := 4) (ls' := [(1, .inl 4), (0, .inr (.inr (some 2)))]) dX4_init_102 rfl (by decide) (by decide) rfl rfl ?_
  refine ex_goto (pc' := 84) dX4_init_105 (by decide) ?_
  refine ex_iload_n (pc' := 85) dX4_init_84 rfl rfl ?_
  refine ex_iconst (v := 5) (pc' := 86) dX4_init_85 (by decide) rfl ?_
  refine ex_icmp_f (pc' := 89) dX4_init_86 (by decide) (by decide) rfl ?_
  refine ex_aload_n (pc' := 90) dX4_init_89 rfl rfl ?_
  refine ex_getR (pc' := 93) (n := 15) (r := 6) dX4_init_90 fl_4_26 (by decide +kernel) (by decide) (by decide +kernel) rfl ?_
  refine ex_iload_n (pc' := 94) dX4_init_93 rfl rfl ?_
  refine en_new (pc' := 97) (a := 25) (nf := 4) (h2 := hh_51) dX4_init_94 kl_4_24 (by decide +kernel) rfl rfl ?_
  refine ex_dup (pc' := 98) dX4_init_97 rfl rfl ?_
  refine en_calliV (pc' := 101) (a := 25) (n := 4) (h2 := hh_51) (vs := []) (rest := [.inr (.inr (some 25)), .inl 4, .inr (.inr (some 6))]) dX4_init_98 ml_4_43 (by decide) ⟨by decide, by decide⟩ rfl rfl (by decide +kernel) (by decide) (by decide) rfl (kc_19 _) ?_
  refine en_aast (pc' := 102) (kd := 20) (n := 5) (nv := 4) (jj := 4) (h2 := hh_52) dX4_init_101 (by decide +kernel) (by decide +kernel) (by decide) (by decide) rfl rfl ?_
  refine ex_iinc (pc' := 105) (v := 5) (ls' := [(1, .inl 5), (0, .inr (.inr (some 2)))]) dX4_init_102 rfl (by decide) (by decide) rfl rfl ?_
  refine ex_goto (pc' := 84) dX4_init_105 (by decide) ?_
  refine ex_iload_n (pc' := 85) dX4_init_84 rfl rfl ?_
  refine ex_iconst (v := 5) (pc' := 86) dX4_init_85 (by decide) rfl ?_
  refine ex_icmp_t (pc' := 108) dX4_init_86 (by decide) (by decide) ?_
  refine ex_iconst (v := 0) (pc' := 109) dX4_init_108 (by decide) rfl ?_
  refine ex_istore_n (pc' := 110) (ls' := [(1, .inl 0), (0, .inr (.inr (some 2)))]) dX4_init_109 (by decide) rfl rfl ?_
  refine ex_iload_n (pc' := 111) dX4_init_110 rfl rfl ?_
  refine ex_bipush (v := 8) (pc' := 113) dX4_init_111 (by decide) rfl ?_
  refine ex_icmp_f (pc' := 116) dX4_init_113 (by decide) (by decide) rfl ?_
  refine ex_aload_n (pc' := 117) dX4_init_116 rfl rfl ?_
  refine ex_getR (pc' := 120) (n := 15) (r := 7) dX4_init_117 fl_4_32 (by decide +kernel) (by decide) (by decide +kernel) rfl ?_
  refine ex_iload_n (pc' := 121) dX4_init_120 rfl rfl ?_
  refine en_new (pc' := 124) (a := 26) (nf := 4) (h2 := hh_53) dX4_init_121 kl_4_30 (by decide +kernel) rfl rfl ?_
  refine ex_dup (pc' := 125) dX4_init_124 rfl rfl ?_
  refine en_calliV (pc' := 128) (a := 26) (n := 4) (h2 := hh_53) (vs := []) (rest := [.inr (.inr (some 26)), .inl 0, .inr (.inr (some 7))]) dX4_init_125 ml_4_44 (by decide) ⟨by decide, by decide⟩ rfl rfl (by decide +kernel) (by decide) (by decide) rfl (kc_20 _) ?_
  refine en_aast (pc' := 129) (kd := 16) (n := 8) (nv := 4) (jj := 0) (h2 := hh_54) dX4_init_128 (by decide +kernel) (by decide +kernel) (by decide) (by decide) rfl rfl ?_
  refine ex_iinc (pc' := 132) (v := 1) (ls' := [(1, .inl 1), (0, .inr (.inr (some 2)))]) dX4_init_129 rfl (by decide) (by decide) rfl rfl ?_
  refine ex_goto (pc' := 110) dX4_init_132 (by decide) ?_
  refine ex_iload_n (pc' := 111) dX4_init_110 rfl rfl ?_
  refine ex_bipush (v := 8) (pc' := 113) dX4_init_111 (by decide) rfl ?_
  refine ex_icmp_f (pc' := 116) dX4_init_113 (by decide) (by decide) rfl ?_
  refine ex_aload_n (pc' := 117) dX4_init_116 rfl rfl ?_
  refine ex_getR (pc' := 120) (n := 15) (r := 7) dX4_init_117 fl_4_32 (by decide +kernel) (by decide) (by decide +kernel) rfl ?_
  refine ex_iload_n (pc' := 121) dX4_init_120 rfl rfl ?_
  refine en_new (pc' := 124) (a := 27) (nf := 4) (h2 := hh_55) dX4_init_121 kl_4_30 (by decide +kernel) rfl rfl ?_
  refine ex_dup (pc' := 125) dX4_init_124 rfl rfl ?_
  refine en_calliV (pc' := 128) (a := 27) (n := 4) (h2 := hh_55) (vs := []) (rest := [.inr (.inr (some 27)), .inl 1, .inr (.inr (some 7))]) dX4_init_125 ml_4_44 (by decide) ⟨by decide, by decide⟩ rfl rfl (by decide +kernel) (by decide) (by decide) rfl (kc_21 _) ?_
  refine en_aast (pc' := 129) (kd := 16) (n := 8) (nv := 4) (jj := 1) (h2 := hh_56) dX4_init_128 (by decide +kernel) (by decide +kernel) (by decide) (by decide) rfl rfl ?_
  refine ex_iinc (pc' := 132) (v := 2) (ls' := [(1, .inl 2), (0, .inr (.inr (some 2)))]) dX4_init_129 rfl (by decide) (by decide) rfl rfl ?_
  refine ex_goto (pc' := 110) dX4_init_132 (by decide) ?_
  refine ex_iload_n (pc' := 111) dX4_init_110 rfl rfl ?_
  refine ex_bipush (v := 8) (pc' := 113) dX4_init_111 (by decide) rfl ?_
  refine ex_icmp_f (pc' := 116) dX4_init_113 (by decide) (by decide) rfl ?_
  refine ex_aload_n (pc' := 117) dX4_init_116 rfl rfl ?_
  refine ex_getR (pc' := 120) (n := 15) (r := 7) dX4_init_117 fl_4_32 (by decide +kernel) (by decide) (by decide +kernel) rfl ?_
  refine ex_iload_n (pc' := 121) dX4_init_120 rfl rfl ?_
  refine en_new (pc' := 124) (a := 28) (nf := 4) (h2 := hh_57) dX4_init_121 kl_4_30 (by decide +kernel) rfl rfl ?_
  refine ex_dup (pc' := 125) dX4_init_124 rfl rfl ?_
  refine en_calliV (pc' := 128) (a := 28) (n := 4) (h2 := hh_57) (vs := []) (rest := [.inr (.inr (some 28)), .inl 2, .inr (.inr (some 7))]) dX4_init_125 ml_4_44 (by decide) ⟨by decide, by decide⟩ rfl rfl (by decide +kernel) (by decide) (by decide) rfl (kc_22 _) ?_
  refine en_aast (pc' := 129) (kd := 16) (n := 8) (nv := 4) (jj := 2) (h2 := hh_58) dX4_init_128 (by decide +kernel) (by decide +kernel) (by decide) (by decide) rfl rfl ?_
  refine ex_iinc (pc' := 132) (v := 3) (ls' := [(1, .inl 3), (0, .inr (.inr (some 2)))]) dX4_init_129 rfl (by decide) (by decide) rfl rfl ?_
  refine ex_goto (pc' := 110) dX4_init_132 (by decide) ?_
  refine ex_iload_n (pc' := 111) dX4_init_110 rfl rfl ?_
  refine ex_bipush (v := 8) (pc' := 113) dX4_init_111 (by decide) rfl ?_
  refine ex_icmp_f (pc' := 116) dX4_init_113 (by decide) (by decide) rfl ?_
  refine ex_aload_n (pc' := 117) dX4_init_116 rfl rfl ?_
  refine ex_getR (pc' := 120) (n := 15) (r := 7) dX4_init_117 fl_4_32 (by decide +kernel) (by decide) (by decide +kernel) rfl ?_
  refine ex_iload_n (pc' := 121) dX4_init_120 rfl rfl ?_
  refine en_new (pc' := 124) (a := 29) (nf := 4) (h2 := hh_59) dX4_init_121 kl_4_30 (by decide +kernel) rfl rfl ?_
  refine ex_dup (pc' := 125) dX4_init_124 rfl rfl ?_
  refine en_calliV (pc' := 128) (a := 29) (n := 4) (h2 := hh_59) (vs := []) (rest := [.inr (.inr (some 29)), .inl 3, .inr (.inr (some 7))]) dX4_init_125 ml_4_44 (by decide) ⟨by decide, by decide⟩ rfl rfl (by decide +kernel) (by decide) (by decide) rfl (kc_23 _) ?_
  refine en_aast (pc' := 129) (kd := 16) (n := 8) (nv := 4) (jj := 3) (h2 := hh_60) dX4_init_128 (by decide +kernel) (by decide +kernel) (by decide) (by decide) rfl rfl ?_
  refine ex_iinc (pc' := 132) (v := 4) (ls' := [(1, .inl 4), (0, .inr (.inr (some 2)))]) dX4_init_129 rfl (by decide) (by decide) rfl rfl ?_
  refine ex_goto (pc' := 110) dX4_init_132 (by decide) ?_
  refine ex_iload_n (pc' := 111) dX4_init_110 rfl rfl ?_
  refine ex_bipush (v := 8) (pc' := 113) dX4_init_111 (by decide) rfl ?_
  refine ex_icmp_f (pc' := 116) dX4_init_113 (by decide) (by decide) rfl ?_
  refine ex_aload_n (pc' := 117) dX4_init_116 rfl rfl ?_
  refine ex_getR (pc' := 120) (n := 15) (r := 7) dX4_init_117 fl_4_32 (by decide +kernel) (by decide) (by decide +kernel) rfl ?_
  refine ex_iload_n (pc' := 121) dX4_init_120 rfl rfl ?_
  refine en_new (pc' := 124) (a := 30) (nf := 4) (h2 := hh_61) dX4_init_121 kl_4_30 (by decide +kernel) rfl rfl ?_
  refine ex_dup (pc' := 125) dX4_init_124 rfl rfl ?_
  refine en_calliV (pc' := 128) (a := 30) (n := 4) (h2 := hh_61) (vs := []) (rest := [.inr (.inr (some 30)), .inl 4, .inr (.inr (some 7))]) dX4_init_125 ml_4_44 (by decide) ⟨by decide, by decide⟩ rfl rfl (by decide +kernel) (by decide) (by decide) rfl (kc_24 _) ?_
  refine en_aast (pc' := 129) (kd := 16) (n := 8) (nv := 4) (jj := 4) (h2 := hh_62) dX4_init_128 (by decide +kernel) (by decide +kernel) (by decide) (by decide) rfl rfl ?_
  refine ex_iinc (pc' := 132) (v := 5) (ls' := [(1, .inl 5), (0, .inr (.inr (some 2)))]) dX4_init_129 rfl (by decide) (by decide) rfl rfl ?_
  refine ex_goto (pc' := 110) dX4_init_132 (by decide) ?_
  refine ex_iload_n (pc' := 111) dX4_init_110 rfl rfl ?_
  refine ex_bipush (v := 8) (pc' := 113) dX4_init_111 (by decide) rfl ?_
  refine ex_icmp_f (pc' := 116) dX4_init_113 (by decide) (by decide) rfl ?_
  refine ex_aload_n (pc' := 117) dX4_init_116 rfl rfl ?_
  refine ex_getR (pc' := 120) (n := 15) (r := 7) dX4_init_117 fl_4_32 (by decide +kernel) (by decide) (by decide +kernel) rfl ?_
  refine ex_iload_n (pc' := 121) dX4_init_120 rfl rfl ?_
  refine en_new (pc' := 124) (a := 31) (nf := 4) (h2 := hh_63) dX4_init_121 kl_4_30 (by decide +kernel) rfl rfl ?_
  refine ex_dup (pc' := 125) dX4_init_124 rfl rfl ?_
  refine en_calliV (pc' := 128) (a := 31) (n := 4) (h2 := hh_63) (vs := []) (rest := [.inr (.inr (some 31)), .inl 5, .inr (.inr (some 7))]) dX4_init_125 ml_4_44 (by decide) ⟨by decide, by decide⟩ rfl rfl (by decide +kernel) (by decide) (by decide) rfl (kc_25 _) ?_
  refine en_aast (pc' := 129) (kd := 16) (n := 8) (nv := 4) (jj := 5) (h2 := hh_64) dX4_init_128 (by decide +kernel) (by decide +kernel) (by decide) (by decide) rfl rfl ?_
  refine ex_iinc (pc' := 132) (v := 6) (ls' := [(1, .inl 6), (0, .inr (.inr (some 2)))]) dX4_init_129 rfl (by decide) (by decide) rfl rfl ?_
  refine ex_goto (pc' := 110) dX4_init_132 (by decide) ?_
  refine ex_iload_n (pc' := 111) dX4_init_110 rfl rfl ?_
  refine ex_bipush (v := 8) (pc' := 113) dX4_init_111 (by decide) rfl ?_
  refine ex_icmp_f (pc' := 116) dX4_init_113 (by decide) (by decide) rfl ?_
  refine ex_aload_n (pc' := 117) dX4_init_116 rfl rfl ?_
  refine ex_getR (pc' := 120) (n := 15) (r := 7) dX4_init_117 fl_4_32 (by decide +kernel) (by decide) (by decide +kernel) rfl ?_
  refine ex_iload_n (pc' := 121) dX4_init_120 rfl rfl ?_
  refine en_new (pc' := 124) (a := 32) (nf := 4) (h2 := hh_65) dX4_init_121 kl_4_30 (by decide +kernel) rfl rfl ?_
  refine ex_dup (pc' := 125) dX4_init_124 rfl rfl ?_
  refine en_calliV (pc' := 128) (a := 32) (n := 4) (h2 := hh_65) (vs := []) (rest := [.inr (.inr (some 32)), .inl 6, .inr (.inr (some 7))]) dX4_init_125 ml_4_44 (by decide) ⟨by decide, by decide⟩ rfl rfl (by decide +kernel) (by decide) (by decide) rfl (kc_26 _) ?_
  refine en_aast (pc' := 129) (kd := 16) (n := 8) (nv := 4) (jj := 6) (h2 := hh_66) dX4_init_128 (by decide +kernel) (by decide +kernel) (by decide) (by decide) rfl rfl ?_
  refine ex_iinc (pc' := 132) (v := 7) (ls' := [(1, .inl 7), (0, .inr (.inr (some 2)))]) dX4_init_129 rfl (by decide) (by decide) rfl rfl ?_
  refine ex_goto (pc' := 110) dX4_init_132 (by decide) ?_
  refine ex_iload_n (pc' := 111) dX4_init_110 rfl rfl ?_
  refine ex_bipush (v := 8) (pc' := 113) dX4_init_111 (by decide) rfl ?_
  refine ex_icmp_f (pc' := 116) dX4_init_113 (by decide) (by decide) rfl ?_
  refine ex_aload_n (pc' := 117) dX4_init_116 rfl rfl ?_
  refine ex_getR (pc' := 120) (n := 15) (r := 7) dX4_init_117 fl_4_32 (by decide +kernel) (by decide) (by decide +kernel) rfl ?_
  refine ex_iload_n (pc' := 121) dX4_init_120 rfl rfl ?_
  refine en_new (pc' := 124) (a := 33) (nf := 4) (h2 := hh_67) dX4_init_121 kl_4_30 (by decide +kernel) rfl rfl ?_
  refine ex_dup (pc' := 125) dX4_init_124 rfl rfl ?_
  refine en_calliV (pc' := 128) (a := 33) (n := 4) (h2 := hh_67) (vs := []) (rest := [.inr (.inr (some 33)), .inl 7, .inr (.inr (some 7))]) dX4_init_125 ml_4_44 (by decide) ⟨by decide, by decide⟩ rfl rfl (by decide +kernel) (by decide) (by decide) rfl (kc_27 _) ?_
  refine en_aast (pc' := 129) (kd := 16) (n := 8) (nv := 4) (jj := 7) (h2 := hh_68) dX4_init_128 (by decide +kernel) (by decide +kernel) (by decide) (by decide) rfl rfl ?_
  refine ex_iinc (pc' := 132) (v := 8) (ls' := [(1, .inl 8), (0, .inr (.inr (some 2)))]) dX4_init_129 rfl (by decide) (by decide) rfl rfl ?_
  refine ex_goto (pc' := 110) dX4_init_132 (by decide) ?_
  refine ex_iload_n (pc' := 111) dX4_init_110 rfl rfl ?_
  refine ex_bipush (v := 8) (pc' := 113) dX4_init_111 (by decide) rfl ?_
  refine ex_icmp_t (pc' := 135) dX4_init_113 (by decide) (by decide) ?_
  refine ex_iconst (v := 0) (pc' := 136) dX4_init_135 (by decide) rfl ?_
  refine ex_istore_n (pc' := 137) (ls' := [(1, .inl 0), (0, .inr (.inr (some 2)))]) dX4_init_136 (by decide) rfl rfl ?_
  refine ex_iload_n (pc' := 138) dX4_init_137 rfl rfl ?_
  refine ex_bipush (v := 8) (pc' := 140) dX4_init_138 (by decide) rfl ?_
  refine ex_icmp_f (pc' := 143) dX4_init_140 (by decide) (by decide) rfl ?_
  refine ex_aload_n (pc' := 144) dX4_init_143 rfl rfl ?_
  refine ex_getR (pc' := 147) (n := 15) (r := 8) dX4_init_144 fl_4_38 (by decide +kernel) (by decide) (by decide +kernel) rfl ?_
  refine ex_iload_n (pc' := 148) dX4_init_147 rfl rfl ?_
  refine en_new (pc' := 151) (a := 34) (nf := 3) (h2 := hh_69) dX4_init_148 kl_4_36 (by decide +kernel) rfl rfl ?_
  refine ex_dup (pc' := 152) dX4_init_151 rfl rfl ?_
  refine en_calliV (pc' := 155) (a := 34) (n := 3) (h2 := hh_69) (vs := []) (rest := [.inr (.inr (some 34)), .inl 0, .inr (.inr (some 8))]) dX4_init_152 ml_4_45 (by decide) ⟨by decide, by decide⟩ rfl rfl (by decide +kernel) (by decide) (by decide) rfl (kc_28 _) ?_
  refine en_aast (pc' := 156) (kd := 18) (n := 8) (nv := 3) (jj := 0) (h2 := hh_70) dX4_init_155 (by decide +kernel) (by decide +kernel) (by decide) (by decide) rfl rfl ?_
  refine ex_iinc (pc' := 159) (v := 1) (ls' := [(1, .inl 1), (0, .inr (.inr (some 2)))]) dX4_init_156 rfl (by decide) (by decide) rfl rfl ?_
  refine ex_goto (pc' := 137) dX4_init_159 (by decide) ?_
  refine ex_iload_n (pc' := 138) dX4_init_137 rfl rfl ?_
  refine ex_bipush (v := 8) (pc' := 140) dX4_init_138 (by decide) rfl ?_
  refine ex_icmp_f (pc' := 143) dX4_init_140 (by decide) (by decide) rfl ?_
  refine ex_aload_n (pc' := 144) dX4_init_143 rfl rfl ?_
  refine ex_getR (pc' := 147) (n := 15) (r := 8) dX4_init_144 fl_4_38 (by decide +kernel) (by decide) (by decide +kernel) rfl ?_
  refine ex_iload_n (pc' := 148) dX4_init_147 rfl rfl ?_
  refine en_new (pc' := 151) (a := 35) (nf := 3) (h2 := hh_71) dX4_init_148 kl_4_36 (by decide +kernel) rfl rfl ?_
  refine ex_dup (pc' := 152) dX4_init_151 rfl rfl ?_
  refine en_calliV (pc' := 155) (a := 35) (n := 3) (h2 := hh_71) (vs := []) (rest := [.inr (.inr (some 35)), .inl 1, .inr (.inr (some 8))]) dX4_init_152 ml_4_45 (by decide) ⟨by decide, by decide⟩ rfl rfl (by decide +kernel) (by decide) (by decide) rfl (kc_29 _) ?_
  refine en_aast (pc' := 156) (kd := 18) (n := 8) (nv := 3) (jj := 1) (h2 := hh_72) dX4_init_155 (by decide +kernel) (by decide +kernel) (by decide) (by decide) rfl rfl ?_
  refine ex_iinc (pc' := 159) (v := 2) (ls' := [(1, .inl 2), (0, .inr (.inr (some 2)))]) dX4_init_156 rfl (by decide) (by decide) rfl rfl ?_
  refine ex_goto (pc' := 137) dX4_init_159 (by decide) ?_
  refine ex_iload_n (pc' := 138) dX4_init_137 rfl rfl ?_
  refine ex_bipush (v := 8) (pc' := 140) dX4_init_138 (by decide) rfl ?_
  refine ex_icmp_f (pc' := 143) dX4_init_140 (by decide) (by decide) rfl ?_
  refine ex_aload_n (pc' := 144) dX4_init_143 rfl rfl ?_
  refine ex_getR (pc' := 147) (n := 15) (r := 8) dX4_init_144 fl_4_38 (by decide +kernel) (by decide) (by decide +kernel) rfl ?_
  refine ex_iload_n (pc' := 148) dX4_init_147 rfl rfl ?_
  refine en_new (pc' := 151) (a := 36) (nf := 3) (h2 := hh_73) dX4_init_148 kl_4_36 (by decide +kernel) rfl rfl ?_
  refine ex_dup (pc' := 152) dX4_init_151 rfl rfl ?_
  refine en_calliV (pc' := 155) (a := 36) (n := 3) (h2 := hh_73) (vs := []) (rest := [.inr (.inr (some 36)), .inl 2, .inr (.inr (some 8))]) dX4_init_152 ml_4_45 (by decide) ⟨by decide, by decide⟩ rfl rfl (by decide +kernel) (by decide) (by decide) rfl (kc_30 _) ?_
  refine en_aast (pc' := 156) (kd := 18) (n := 8) (nv := 3) (jj := 2) (h2 := hh_74) dX4_init_155 (by decide +kernel) (by decide +kernel) (by decide) (by decide) rfl rfl ?_
  refine ex_iinc (pc' := 159) (v := 3) (ls' := [(1, .inl 3), (0, .inr (.inr (some 2)))]) dX4_init_156 rfl (by decide) (by decide) rfl rfl ?_
  refine ex_goto (pc' := 137) dX4_init_159 (by decide) ?_
  refine ex_iload_n (pc' := 138) dX4_init_137 rfl rfl ?_
  refine ex_bipush (v := 8) (pc' := 140) dX4_init_138 (by decide) rfl ?_
  refine ex_icmp_f (pc' := 143) dX4_init_140 (by decide) (by decide) rfl ?_
  refine ex_aload_n (pc' := 144) dX4_init_143 rfl rfl ?_
  refine ex_getR (pc' := 147) (n := 15) (r := 8) dX4_init_144 fl_4_38 (by decide +kernel) (by decide) (by decide +kernel) rfl ?_
  refine ex_iload_n (pc' := 148) dX4_init_147 rfl rfl ?_
  refine en_new (pc' := 151) (a := 37) (nf := 3) (h2 := hh_75) dX4_init_148 kl_4_36 (by decide +kernel) rfl rfl ?_
  refine ex_dup (pc' := 152) dX4_init_151 rfl rfl ?_
  refine en_calliV (pc' := 155) (a := 37) (n := 3) (h2 := hh_75) (vs := []) (rest := [.inr (.inr (some 37)), .inl 3, .inr (.inr (some 8))]) dX4_init_152 ml_4_45 (by decide) ⟨by decide, by decide⟩ rfl rfl (by decide +kernel) (by decide) (by decide) rfl (kc_31 _) ?_
  refine en_aast (pc' := 156) (kd := 18) (n := 8) (nv := 3) (jj := 3) (h2 := hh_76) dX4_init_155 (by decide +kernel) (by decide +kernel) (by decide) (by decide) rfl rfl ?_
  refine ex_iinc (pc' := 159) (v := 4) (ls' := [(1, .inl 4), (0, .inr (.inr (some 2)))]) dX4_init_156 rfl (by decide) (by decide) rfl rfl ?_
  refine ex_goto (pc' := 137) dX4_init_159 (by decide) ?_
  refine ex_iload_n (pc' := 138) dX4_init_137 rfl rfl ?_
  refine ex_bipush (v := 8) (pc' := 140) dX4_init_138 (by decide) rfl ?_
  refine ex_icmp_f (pc' := 143) dX4_init_140 (by decide) (by decide) rfl ?_
  refine ex_aload_n (pc' := 144) dX4_init_143 rfl rfl ?_
  refine ex_getR (pc' := 147) (n := 15) (r := 8) dX4_init_144 fl_4_38 (by decide +kernel) (by decide) (by decide +kernel) rfl ?_
  refine ex_iload_n (pc' := 148) dX4_init_147 rfl rfl ?_
  refine en_new (pc' := 151) (a := 38) (nf := 3) (h2 := hh_77) dX4_init_148 kl_4_36 (by decide +kernel) rfl rfl ?_
  refine ex_dup (pc' := 152) dX4_init_151 rfl rfl ?_
  refine en_calliV (pc' := 155) (a := 38) (n := 3) (h2 := hh_77) (vs := []) (rest := [.inr (.inr (some 38)), .inl 4, .inr (.inr (some 8))]) dX4_init_152 ml_4_45 (by decide) ⟨by decide, by decide⟩ rfl rfl (by decide +kernel) (by decide) (by decide) rfl (kc_32 _) ?_
  refine en_aast (pc' := 156) (kd := 18) (n := 8) (nv := 3) (jj := 4) (h2 := hh_78) dX4_init_155 (by decide +kernel) (by decide +kernel) (by decide) (by decide) rfl rfl ?_
  refine ex_iinc (pc' := 159) (v := 5) (ls' := [(1, .inl 5), (0, .inr (.inr (some 2)))]) dX4_init_156 rfl (by decide) (by decide) rfl rfl ?_
  refine ex_goto (pc' := 137) dX4_init_159 (by decide) ?_
  refine ex_iload_n (pc' := 138) dX4_init_137 rfl rfl ?_
  refine ex_bipush (v := 8) (pc' := 140) dX4_init_138 (by decide) rfl ?_
  refine ex_icmp_f (pc' := 143) dX4_init_140 (by decide) (by decide) rfl ?_
  refine ex_aload_n (pc' := 144) dX4_init_143 rfl rfl ?_
  refine ex_getR (pc' := 147) (n := 15) (r := 8) dX4_init_144 fl_4_38 (by decide +kernel) (by decide) (by decide +kernel) rfl ?_
  refine ex_iload_n (pc' := 148) dX4_init_147 rfl rfl ?_
  refine en_new (pc' := 151) (a := 39) (nf := 3) (h2 := hh_79) dX4_init_148 kl_4_36 (by decide +kernel) rfl rfl ?_
  refine ex_dup (pc' := 152) dX4_init_151 rfl rfl ?_
  refine en_calliV (pc' := 155) (a := 39) (n := 3) (h2 := hh_79) (vs := []) (rest := [.inr (.inr (some 39)), .inl 5, .inr (.inr (some 8))]) dX4_init_152 ml_4_45 (by decide) ⟨by decide, by decide⟩ rfl rfl (by decide +kernel) (by decide) (by decide) rfl (kc_33 _) ?_
  refine en_aast (pc' := 156) (kd := 18) (n := 8) (nv := 3) (jj := 5) (h2 := hh_80) dX4_init_155 (by decide +kernel) (by decide +kernel) (by decide) (by decide) rfl rfl ?_
  refine ex_iinc (pc' := 159) (v := 6) (ls' := [(1, .inl 6), (0, .inr (.inr (some 2)))]) dX4_init_156 rfl (by decide) (by decide) rfl rfl ?_
  refine ex_goto (pc' := 137) dX4_init_159 (by decide) ?_
  refine ex_iload_n (pc' := 138) dX4_init_137 rfl rfl ?_
  refine ex_bipush (v := 8) (pc' := 140) dX4_init_138 (by decide) rfl ?_
  refine ex_icmp_f (pc' := 143) dX4_init_140 (by decide) (by decide) rfl ?_
  refine ex_aload_n (pc' := 144) dX4_init_143 rfl rfl ?_
  refine ex_getR (pc' := 147) (n := 15) (r := 8) dX4_init_144 fl_4_38 (by decide +kernel) (by decide) (by decide +kernel) rfl ?_
  refine ex_iload_n (pc' := 148) dX4_init_147 rfl rfl ?_
  refine en_new (pc' := 151) (a := 40) (nf := 3) (h2 := hh_81) dX4_init_148 kl_4_36 (by decide +kernel) rfl rfl ?_
  refine ex_dup (pc' := 152) dX4_init_151 rfl rfl ?_
  refine en_calliV (pc' := 155) (a := 40) (n := 3) (h2 := hh_81) (vs := []) (rest := [.inr (.inr (some 40)), .inl 6, .inr (.inr (some 8))]) dX4_init_152 ml_4_45 (by decide) ⟨by decide, by decide⟩ rfl rfl (by decide +kernel) (by decide) (by decide) rfl (kc_34 _) ?_
  refine en_aast (pc' := 156) (kd := 18) (n := 8) (nv := 3) (jj := 6) (h2 := hh_82) dX4_init_155 (by decide +kernel) (by decide +kernel) (by decide) (by decide) rfl rfl ?_
  refine ex_iinc (pc' := 159) (v := 7) (ls' := [(1, .inl 7), (0, .inr (.inr (some 2)))]) dX4_init_156 rfl (by decide) (by decide) rfl rfl ?_
  refine ex_goto (pc' := 137) dX4_init_159 (by decide) ?_
  refine ex_iload_n (pc' := 138) dX4_init_137 rfl rfl ?_
  refine ex_bipush (v := 8) (pc' := 140) dX4_init_138 (by decide) rfl ?_
  refine ex_icmp_f (pc' := 143) dX4_init_140 (by decide) (by decide) rfl ?_
  refine ex_aload_n (pc' := 144) dX4_init_143 rfl rfl ?_
  refine ex_getR (pc' := 147) (n := 15) (r := 8) dX4_init_144 fl_4_38 (by decide +kernel) (by decide) (by decide +kernel) rfl ?_
  refine ex_iload_n (pc' := 148) dX4_init_147 rfl rfl ?_
  refine en_new (pc' := 151) (a := 41) (nf := 3) (h2 := hh_83) dX4_init_148 kl_4_36 (by decide +kernel) rfl rfl ?_
  refine ex_dup (pc' := 152) dX4_init_151 rfl rfl ?_
  refine en_calliV (pc' := 155) (a := 41) (n := 3) (h2 := hh_83) (vs := []) (rest := [.inr (.inr (some 41)), .inl 7, .inr (.inr (some 8))]) dX4_init_152 ml_4_45 (by decide) ⟨by decide, by decide⟩ rfl rfl (by decide +kernel) (by decide) (by decide) rfl (kc_35 _) ?_
  refine en_aast (pc' := 156) (kd := 18) (n := 8) (nv := 3) (jj := 7) (h2 := hh_84) dX4_init_155 (by decide +kernel) (by decide +kernel) (by decide) (by decide) rfl rfl ?_
  refine ex_iinc (pc' := 159) (v := 8) (ls' := [(1, .inl 8), (0, .inr (.inr (some 2)))]) dX4_init_156 rfl (by decide) (by decide) rfl rfl ?_
  refine ex_goto (pc' := 137) dX4_init_159 (by decide) ?_
  refine ex_iload_n (pc' := 138) dX4_init_137 rfl rfl ?_
  refine ex_bipush (v := 8) (pc' := 140) dX4_init_138 (by decide) rfl ?_
  refine ex_icmp_t (pc' := 162) dX4_init_140 (by decide) (by decide) ?_
  exact ex_vretV dX4_init_162 rfl rfl
set_option maxRecDepth 20000 in
theorem kc_37 (d : Nat) : zCv (d + 1) mX9_init [.inr (.inr (some 49))] hh_99 (fun h' => h' = hh_99) := by
  show zEx none (d + 1) mX9_init (0, [(0, .inr (.inr (some 49)))], [], hh_99) _
  refine ex_aload_n (pc' := 1) dX9_init_0 rfl rfl ?_
  refine ex_obj (pc' := 4) dX9_init_1 ml_9_1 (by decide) rfl ?_
  exact ex_vretV dX9_init_4 rfl rfl
set_option maxRecDepth 20000 in
theorem kc_38 (d : Nat) : zCv (d + 1) mX9_init [.inr (.inr (some 50))] hh_101 (fun h' => h' = hh_101) := by
  show zEx none (d + 1) mX9_init (0, [(0, .inr (.inr (some 50)))], [], hh_101) _
  refine ex_aload_n (pc' := 1) dX9_init_0 rfl rfl ?_
  refine ex_obj (pc' := 4) dX9_init_1 ml_9_1 (by decide) rfl ?_
  exact ex_vretV dX9_init_4 rfl rfl
set_option maxRecDepth 20000 in
theorem kc_39 (d : Nat) : zCv (d + 1) mX9_init [.inr (.inr (some 51))] hh_103 (fun h' => h' = hh_103) := by
  show zEx none (d + 1) mX9_init (0, [(0, .inr (.inr (some 51)))], [], hh_103) _
  refine ex_aload_n (pc' := 1) dX9_init_0 rfl rfl ?_
  refine ex_obj (pc' := 4) dX9_init_1 ml_9_1 (by decide) rfl ?_
  exact ex_vretV dX9_init_4 rfl rfl
set_option maxRecDepth 20000 in
theorem kc_40 (d : Nat) : zCv (d + 1) mX9_init [.inr (.inr (some 52))] hh_105 (fun h' => h' = hh_105) := by
  show zEx none (d + 1) mX9_init (0, [(0, .inr (.inr (some 52)))], [], hh_105) _
  refine ex_aload_n (pc' := 1) dX9_init_0 rfl rfl ?_
  refine ex_obj (pc' := 4) dX9_init_1 ml_9_1 (by decide) rfl ?_
  exact ex_vretV dX9_init_4 rfl rfl
set_option maxRecDepth 20000 in
theorem kc_41 (d : Nat) : zCv (d + 1) mX9_init [.inr (.inr (some 53))] hh_107 (fun h' => h' = hh_107) := by
  show zEx none (d + 1) mX9_init (0, [(0, .inr (.inr (some 53)))], [], hh_107) _
  refine ex_aload_n (pc' := 1) dX9_init_0 rfl rfl ?_
  refine ex_obj (pc' := 4) dX9_init_1 ml_9_1 (by decide) rfl ?_
  exact ex_vretV dX9_init_4 rfl rfl
set_option maxRecDepth 20000 in
theorem kc_42 (d : Nat) : zCv (d + 1) mX9_init [.inr (.inr (some 54))] hh_109 (fun h' => h' = hh_109) := by
  show zEx none (d + 1) mX9_init (0, [(0, .inr (.inr (some 54)))], [], hh_109) _
  refine ex_aload_n (pc' := 1) dX9_init_0 rfl rfl ?_
  refine ex_obj (pc' := 4) dX9_init_1 ml_9_1 (by decide) rfl ?_
  exact ex_vretV dX9_init_4 rfl rfl
set_option maxRecDepth 20000 in
theorem kc_43 (d : Nat) : zCv (d + 1) mX9_init [.inr (.inr (some 55))] hh_111 (fun h' => h' = hh_111) := by
  show zEx none (d + 1) mX9_init (0, [(0, .inr (.inr (some 55)))], [], hh_111) _
  refine ex_aload_n (pc' := 1) dX9_init_0 rfl rfl ?_
  refine ex_obj (pc' := 4) dX9_init_1 ml_9_1 (by decide) rfl ?_
  exact ex_vretV dX9_init_4 rfl rfl
set_option maxRecDepth 20000 in
theorem kc_44 (d : Nat) : zCv (d + 1) mX9_init [.inr (.inr (some 56))] hh_113 (fun h' => h' = hh_113) := by
  show zEx none (d + 1) mX9_init (0, [(0, .inr (.inr (some 56)))], [], hh_113) _
  refine ex_aload_n (pc' := 1) dX9_init_0 rfl rfl ?_
  refine ex_obj (pc' := 4) dX9_init_1 ml_9_1 (by decide) rfl ?_
  exact ex_vretV dX9_init_4 rfl rfl
set_option maxRecDepth 20000 in
theorem kc_45 (d : Nat) : zCv (d + 1) mX9_init [.inr (.inr (some 57))] hh_115 (fun h' => h' = hh_115) := by
  show zEx none (d + 1) mX9_init (0, [(0, .inr (.inr (some 57)))], [], hh_115) _
  refine ex_aload_n (pc' := 1) dX9_init_0 rfl rfl ?_
  refine ex_obj (pc' := 4) dX9_init_1 ml_9_1 (by decide) rfl ?_
  exact ex_vretV dX9_init_4 rfl rfl
set_option maxRecDepth 20000 in
theorem kc_46 (d : Nat) : zCv (d + 1) mX9_init [.inr (.inr (some 58))] hh_117 (fun h' => h' = hh_117) := by
  show zEx none (d + 1) mX9_init (0, [(0, .inr (.inr (some 58)))], [], hh_117) _
  refine ex_aload_n (pc' := 1) dX9_init_0 rfl rfl ?_
  refine ex_obj (pc' := 4) dX9_init_1 ml_9_1 (by decide) rfl ?_
  exact ex_vretV dX9_init_4 rfl rfl
set_option maxRecDepth 20000 in
theorem kc_47 (d : Nat) : zCv (d + 1) mX9_init [.inr (.inr (some 59))] hh_119 (fun h' => h' = hh_119) := by
  show zEx none (d + 1) mX9_init (0, [(0, .inr (.inr (some 59)))], [], hh_119) _
  refine ex_aload_n (pc' := 1) dX9_init_0 rfl rfl ?_
  refine ex_obj (pc' := 4) dX9_init_1 ml_9_1 (by decide) rfl ?_
  exact ex_vretV dX9_init_4 rfl rfl
set_option maxRecDepth 20000 in
theorem kc_48 (d : Nat) : zCv (d + 1) mX9_init [.inr (.inr (some 60))] hh_121 (fun h' => h' = hh_121) := by
  show zEx none (d + 1) mX9_init (0, [(0, .inr (.inr (some 60)))], [], hh_121) _
  refine ex_aload_n (pc' := 1) dX9_init_0 rfl rfl ?_
  refine ex_obj (pc' := 4) dX9_init_1 ml_9_1 (by decide) rfl ?_
  exact ex_vretV dX9_init_4 rfl rfl
set_option maxRecDepth 20000 in
theorem kc_49 (d : Nat) : zCv (d + 1) mX10_init [.inr (.inr (some 61))] hh_123 (fun h' => h' = hh_123) := by
  show zEx none (d + 1) mX10_init (0, [(0, .inr (.inr (some 61)))], [], hh_123) _
  refine ex_aload_n (pc' := 1) dX10_init_0 rfl rfl ?_
  refine ex_obj (pc' := 4) dX10_init_1 ml_10_1 (by decide) rfl ?_
  exact ex_vretV dX10_init_4 rfl rfl
set_option maxRecDepth 20000 in
theorem kc_50 (d : Nat) : zCv (d + 1) mX10_init [.inr (.inr (some 62))] hh_125 (fun h' => h' = hh_125) := by
  show zEx none (d + 1) mX10_init (0, [(0, .inr (.inr (some 62)))], [], hh_125) _
  refine ex_aload_n (pc' := 1) dX10_init_0 rfl rfl ?_
  refine ex_obj (pc' := 4) dX10_init_1 ml_10_1 (by decide) rfl ?_
  exact ex_vretV dX10_init_4 rfl rfl
set_option maxRecDepth 20000 in
theorem kc_51 (d : Nat) : zCv (d + 1) mX10_init [.inr (.inr (some 63))] hh_127 (fun h' => h' = hh_127) := by
  show zEx none (d + 1) mX10_init (0, [(0, .inr (.inr (some 63)))], [], hh_127) _
  refine ex_aload_n (pc' := 1) dX10_init_0 rfl rfl ?_
  refine ex_obj (pc' := 4) dX10_init_1 ml_10_1 (by decide) rfl ?_
  exact ex_vretV dX10_init_4 rfl rfl
set_option maxRecDepth 20000 in
theorem kc_52 (d : Nat) : zCv (d + 1) mX10_init [.inr (.inr (some 64))] hh_129 (fun h' => h' = hh_129) := by
  show zEx none (d + 1) mX10_init (0, [(0, .inr (.inr (some 64)))], [], hh_129) _
  refine ex_aload_n (pc' := 1) dX10_init_0 rfl rfl ?_
  refine ex_obj (pc' := 4) dX10_init_1 ml_10_1 (by decide) rfl ?_
  exact ex_vretV dX10_init_4 rfl rfl
set_option maxRecDepth 20000 in
theorem kc_53 (d : Nat) : zCv (d + 1) mX10_init [.inr (.inr (some 65))] hh_131 (fun h' => h' = hh_131) := by
  show zEx none (d + 1) mX10_init (0, [(0, .inr (.inr (some 65)))], [], hh_131) _
  refine ex_aload_n (pc' := 1) dX10_init_0 rfl rfl ?_
  refine ex_obj (pc' := 4) dX10_init_1 ml_10_1 (by decide) rfl ?_
  exact ex_vretV dX10_init_4 rfl rfl
set_option maxRecDepth 20000 in
theorem kc_54 (d : Nat) : zCv (d + 1) mX0_init [.inr (.inr (some 66))] hh_133 (fun h' => h' = hh_133) := by
  show zEx none (d + 1) mX0_init (0, [(0, .inr (.inr (some 66)))], [], hh_133) _
  refine ex_aload_n (pc' := 1) dX0_init_0 rfl rfl ?_
  refine ex_obj (pc' := 4) dX0_init_1 ml_0_1 (by decide) rfl ?_
  exact ex_vretV dX0_init_4 rfl rfl
set_option maxRecDepth 20000 in
theorem kc_55 (d : Nat) : zCv (d + 1) mX0_init [.inr (.inr (some 67))] hh_135 (fun h' => h' = hh_135) := by
  show zEx none (d + 1) mX0_init (0, [(0, .inr (.inr (some 67)))], [], hh_135) _
  refine ex_aload_n (pc' := 1) dX0_init_0 rfl rfl ?_
  refine ex_obj (pc' := 4) dX0_init_1 ml_0_1 (by decide) rfl ?_
  exact ex_vretV dX0_init_4 rfl rfl
set_option maxRecDepth 20000 in
theorem kc_56 (d : Nat) : zCv (d + 1) mX0_init [.inr (.inr (some 68))] hh_137 (fun h' => h' = hh_137) := by
  show zEx none (d + 1) mX0_init (0, [(0, .inr (.inr (some 68)))], [], hh_137) _
  refine ex_aload_n (pc' := 1) dX0_init_0 rfl rfl ?_
  refine ex_obj (pc' := 4) dX0_init_1 ml_0_1 (by decide) rfl ?_
  exact ex_vretV dX0_init_4 rfl rfl
set_option maxRecDepth 20000 in
theorem kc_57 (d : Nat) : zCv (d + 1) mX0_init [.inr (.inr (some 69))] hh_139 (fun h' => h' = hh_139) := by
  show zEx none (d + 1) mX0_init (0, [(0, .inr (.inr (some 69)))], [], hh_139) _
  refine ex_aload_n (pc' := 1) dX0_init_0 rfl rfl ?_
  refine ex_obj (pc' := 4) dX0_init_1 ml_0_1 (by decide) rfl ?_
  exact ex_vretV dX0_init_4 rfl rfl
set_option maxRecDepth 20000 in
theorem kc_58 (d : Nat) : zCv (d + 1) mX0_init [.inr (.inr (some 70))] hh_141 (fun h' => h' = hh_141) := by
  show zEx none (d + 1) mX0_init (0, [(0, .inr (.inr (some 70)))], [], hh_141) _
  refine ex_aload_n (pc' := 1) dX0_init_0 rfl rfl ?_
  refine ex_obj (pc' := 4) dX0_init_1 ml_0_1 (by decide) rfl ?_
  exact ex_vretV dX0_init_4 rfl rfl
set_option maxRecDepth 20000 in
theorem kc_59 (d : Nat) : zCv (d + 1) mX0_init [.inr (.inr (some 71))] hh_143 (fun h' => h' = hh_143) := by
  show zEx none (d + 1) mX0_init (0, [(0, .inr (.inr (some 71)))], [], hh_143) _
  refine ex_aload_n (pc' := 1) dX0_init_0 rfl rfl ?_
  refine ex_obj (pc' := 4) dX0_init_1 ml_0_1 (by decide) rfl ?_
  exact ex_vretV dX0_init_4 rfl rfl
set_option maxRecDepth 20000 in
theorem kc_60 (d : Nat) : zCv (d + 1) mX0_init [.inr (.inr (some 72))] hh_145 (fun h' => h' = hh_145) := by
  show zEx none (d + 1) mX0_init (0, [(0, .inr (.inr (some 72)))], [], hh_145) _
  refine ex_aload_n (pc' := 1) dX0_init_0 rfl rfl ?_
  refine ex_obj (pc' := 4) dX0_init_1 ml_0_1 (by decide) rfl ?_
  exact ex_vretV dX0_init_4 rfl rfl
set_option maxRecDepth 20000 in
theorem kc_61 (d : Nat) : zCv (d + 1) mX0_init [.inr (.inr (some 73))] hh_147 (fun h' => h' = hh_147) := by
  show zEx none (d + 1) mX0_init (0, [(0, .inr (.inr (some 73)))], [], hh_147) _
  refine ex_aload_n (pc' := 1) dX0_init_0 rfl rfl ?_
  refine ex_obj (pc' := 4) dX0_init_1 ml_0_1 (by decide) rfl ?_
  exact ex_vretV dX0_init_4 rfl rfl
set_option maxRecDepth 20000 in
theorem kc_62 (d : Nat) : zCv (d + 1) mX8_init [.inr (.inr (some 74))] hh_149 (fun h' => h' = hh_149) := by
  show zEx none (d + 1) mX8_init (0, [(0, .inr (.inr (some 74)))], [], hh_149) _
  refine ex_aload_n (pc' := 1) dX8_init_0 rfl rfl ?_
  refine ex_obj (pc' := 4) dX8_init_1 ml_8_1 (by decide) rfl ?_
  exact ex_vretV dX8_init_4 rfl rfl
set_option maxRecDepth 20000 in
theorem kc_63 (d : Nat) : zCv (d + 1) mX8_init [.inr (.inr (some 75))] hh_151 (fun h' => h' = hh_151) := by
  show zEx none (d + 1) mX8_init (0, [(0, .inr (.inr (some 75)))], [], hh_151) _
  refine ex_aload_n (pc' := 1) dX8_init_0 rfl rfl ?_
  refine ex_obj (pc' := 4) dX8_init_1 ml_8_1 (by decide) rfl ?_
  exact ex_vretV dX8_init_4 rfl rfl
set_option maxRecDepth 20000 in
theorem kc_64 (d : Nat) : zCv (d + 1) mX8_init [.inr (.inr (some 76))] hh_153 (fun h' => h' = hh_153) := by
  show zEx none (d + 1) mX8_init (0, [(0, .inr (.inr (some 76)))], [], hh_153) _
  refine ex_aload_n (pc' := 1) dX8_init_0 rfl rfl ?_
  refine ex_obj (pc' := 4) dX8_init_1 ml_8_1 (by decide) rfl ?_
  exact ex_vretV dX8_init_4 rfl rfl
set_option maxRecDepth 20000 in
theorem kc_65 (d : Nat) : zCv (d + 1) mX8_init [.inr (.inr (some 77))] hh_155 (fun h' => h' = hh_155) := by
  show zEx none (d + 1) mX8_init (0, [(0, .inr (.inr (some 77)))], [], hh_155) _
  refine ex_aload_n (pc' := 1) dX8_init_0 rfl rfl ?_
  refine ex_obj (pc' := 4) dX8_init_1 ml_8_1 (by decide) rfl ?_
  exact ex_vretV dX8_init_4 rfl rfl
set_option maxRecDepth 20000 in
theorem kc_66 (d : Nat) : zCv (d + 1) mX8_init [.inr (.inr (some 78))] hh_157 (fun h' => h' = hh_157) := by
  show zEx none (d + 1) mX8_init (0, [(0, .inr (.inr (some 78)))], [], hh_157) _
  refine ex_aload_n (pc' := 1) dX8_init_0 rfl rfl ?_
  refine ex_obj (pc' := 4) dX8_init_1 ml_8_1 (by decide) rfl ?_
  exact ex_vretV dX8_init_4 rfl rfl
set_option maxRecDepth 20000 in
theorem kc_67 (d : Nat) : zCv (d + 1) mX8_init [.inr (.inr (some 79))] hh_159 (fun h' => h' = hh_159) := by
  show zEx none (d + 1) mX8_init (0, [(0, .inr (.inr (some 79)))], [], hh_159) _
  refine ex_aload_n (pc' := 1) dX8_init_0 rfl rfl ?_
  refine ex_obj (pc' := 4) dX8_init_1 ml_8_1 (by decide) rfl ?_
  exact ex_vretV dX8_init_4 rfl rfl
set_option maxRecDepth 20000 in
theorem kc_68 (d : Nat) : zCv (d + 1) mX8_init [.inr (.inr (some 80))] hh_161 (fun h' => h' = hh_161) := by
  show zEx none (d + 1) mX8_init (0, [(0, .inr (.inr (some 80)))], [], hh_161) _
  refine ex_aload_n (pc' := 1) dX8_init_0 rfl rfl ?_
  refine ex_obj (pc' := 4) dX8_init_1 ml_8_1 (by decide) rfl ?_
  exact ex_vretV dX8_init_4 rfl rfl
set_option maxRecDepth 20000 in
theorem kc_69 (d : Nat) : zCv (d + 1) mX8_init [.inr (.inr (some 81))] hh_163 (fun h' => h' = hh_163) := by
  show zEx none (d + 1) mX8_init (0, [(0, .inr (.inr (some 81)))], [], hh_163) _
  refine ex_aload_n (pc' := 1) dX8_init_0 rfl rfl ?_
  refine ex_obj (pc' := 4) dX8_init_1 ml_8_1 (by decide) rfl ?_
  exact ex_vretV dX8_init_4 rfl rfl
set_option maxRecDepth 20000 in
theorem kc_36 (d : Nat) : zCv (d + 2) mX4_init [.inr (.inr (some 42))] hh_86 (fun h' => h' = hh_164) := by
  show zEx none (d + 2) mX4_init (0, [(0, .inr (.inr (some 42)))], [], hh_86) _
  refine ex_aload_n (pc' := 1) dX4_init_0 rfl rfl ?_
  refine ex_obj (pc' := 4) dX4_init_1 ml_4_3 (by decide) rfl ?_
  refine ex_aload_n (pc' := 5) dX4_init_4 rfl rfl ?_
  refine ex_bipush (v := 7) (pc' := 7) dX4_init_5 (by decide) rfl ?_
  refine en_narrI (pc' := 9) (a := 43) (nn := 7) (h2 := hh_87) dX4_init_7 (by decide +kernel) rfl rfl ?_
  refine en_putR (pc' := 12) (n := 15) (h2 := hh_88) dX4_init_9 fl_4_9 (by decide +kernel) (by decide) (by decide) rfl rfl ?_
  refine ex_aload_n (pc' := 13) dX4_init_12 rfl rfl ?_
  refine ex_bipush (v := 7) (pc' := 15) dX4_init_13 (by decide) rfl ?_
  refine en_narrI (pc' := 17) (a := 44) (nn := 7) (h2 := hh_89) dX4_init_15 (by decide +kernel) rfl rfl ?_
  refine en_putR (pc' := 20) (n := 15) (h2 := hh_90) dX4_init_17 fl_4_15 (by decide +kernel) (by decide) (by decide) rfl rfl ?_
  refine ex_aload_n (pc' := 21) dX4_init_20 rfl rfl ?_
  refine ex_bipush (v := 12) (pc' := 23) dX4_init_21 (by decide) rfl ?_
  refine en_anarr (pc' := 26) (a := 45) (nn := 12) (ak := 19) (h2 := hh_91) dX4_init_23 kl_4_18 (by decide +kernel) rfl rfl ?_
  refine en_putR (pc' := 29) (n := 15) (h2 := hh_92) dX4_init_26 fl_4_20 (by decide +kernel) (by decide) (by decide) rfl rfl ?_
  refine ex_aload_n (pc' := 30) dX4_init_29 rfl rfl ?_
  refine ex_iconst (v := 5) (pc' := 31) dX4_init_30 (by decide) rfl ?_
  refine en_anarr (pc' := 34) (a := 46) (nn := 5) (ak := 20) (h2 := hh_93) dX4_init_31 kl_4_24 (by decide +kernel) rfl rfl ?_
  refine en_putR (pc' := 37) (n := 15) (h2 := hh_94) dX4_init_34 fl_4_26 (by decide +kernel) (by decide) (by decide) rfl rfl ?_
  refine ex_aload_n (pc' := 38) dX4_init_37 rfl rfl ?_
  refine ex_bipush (v := 8) (pc' := 40) dX4_init_38 (by decide) rfl ?_
  refine en_anarr (pc' := 43) (a := 47) (nn := 8) (ak := 16) (h2 := hh_95) dX4_init_40 kl_4_30 (by decide +kernel) rfl rfl ?_
  refine en_putR (pc' := 46) (n := 15) (h2 := hh_96) dX4_init_43 fl_4_32 (by decide +kernel) (by decide) (by decide) rfl rfl ?_
  refine ex_aload_n (pc' := 47) dX4_init_46 rfl rfl ?_
  refine ex_bipush (v := 8) (pc' := 49) dX4_init_47 (by decide) rfl ?_
  refine en_anarr (pc' := 52) (a := 48) (nn := 8) (ak := 18) (h2 := hh_97) dX4_init_49 kl_4_36 (by decide +kernel) rfl rfl ?_
  refine en_putR (pc' := 55) (n := 15) (h2 := hh_98) dX4_init_52 fl_4_38 (by decide +kernel) (by decide) (by decide) rfl rfl ?_
  refine ex_iconst (v := 0) (pc' := 56) dX4_init_55 (by decide) rfl ?_
  refine ex_istore_n (pc' := 57) (ls' := [(1, .inl 0), (0, .inr (.inr (some 42)))]) dX4_init_56 (by decide) rfl rfl ?_
  refine ex_iload_n (pc' := 58) dX4_init_57 rfl rfl ?_
  refine ex_bipush (v := 12) (pc' := 60) dX4_init_58 (by decide) rfl ?_
  refine ex_icmp_f (pc' := 63) dX4_init_60 (by decide) (by decide) rfl ?_
  refine ex_aload_n (pc' := 64) dX4_init_63 rfl rfl ?_
  refine ex_getR (pc' := 67) (n := 15) (r := 45) dX4_init_64 fl_4_20 (by decide +kernel) (by decide) (by decide +kernel) rfl ?_
  refine ex_iload_n (pc' := 68) dX4_init_67 rfl rfl ?_
  refine en_new (pc' := 71) (a := 49) (nf := 4) (h2 := hh_99) dX4_init_68 kl_4_18 (by decide +kernel) rfl rfl ?_
  refine ex_dup (pc' := 72) dX4_init_71 rfl rfl ?_
  refine en_calliV (pc' := 75) (a := 49) (n := 4) (h2 := hh_99) (vs := []) (rest := [.inr (.inr (some 49)), .inl 0, .inr (.inr (some 45))]) dX4_init_72 ml_4_42 (by decide) ⟨by decide, by decide⟩ rfl rfl (by decide +kernel) (by decide) (by decide) rfl (kc_37 _) ?_
  refine en_aast (pc' := 76) (kd := 19) (n := 12) (nv := 4) (jj := 0) (h2 := hh_100) dX4_init_75 (by decide +kernel) (by decide +kernel) (by decide) (by decide) rfl rfl ?_
  refine ex_iinc (pc' := 79) (v := 1) (ls' := [(1, .inl 1), (0, .inr (.inr (some 42)))]) dX4_init_76 rfl (by decide) (by decide) rfl rfl ?_
  refine ex_goto (pc' := 57) dX4_init_79 (by decide) ?_
  refine ex_iload_n (pc' := 58) dX4_init_57 rfl rfl ?_
  refine ex_bipush (v := 12) (pc' := 60) dX4_init_58 (by decide) rfl ?_
  refine ex_icmp_f (pc' := 63) dX4_init_60 (by decide) (by decide) rfl ?_
  refine ex_aload_n (pc' := 64) dX4_init_63 rfl rfl ?_
  refine ex_getR (pc' := 67) (n := 15) (r := 45) dX4_init_64 fl_4_20 (by decide +kernel) (by decide) (by decide +kernel) rfl ?_
  refine ex_iload_n (pc' := 68) dX4_init_67 rfl rfl ?_
  refine en_new (pc' := 71) (a := 50) (nf := 4) (h2 := hh_101) dX4_init_68 kl_4_18 (by decide +kernel) rfl rfl ?_
  refine ex_dup (pc' := 72) dX4_init_71 rfl rfl ?_
  refine en_calliV (pc' := 75) (a := 50) (n := 4) (h2 := hh_101) (vs := []) (rest := [.inr (.inr (some 50)), .inl 1, .inr (.inr (some 45))]) dX4_init_72 ml_4_42 (by decide) ⟨by decide, by decide⟩ rfl rfl (by decide +kernel) (by decide) (by decide) rfl (kc_38 _) ?_
  refine en_aast (pc' := 76) (kd := 19) (n := 12) (nv := 4) (jj := 1) (h2 := hh_102) dX4_init_75 (by decide +kernel) (by decide +kernel) (by decide) (by decide) rfl rfl ?_
  refine ex_iinc (pc' := 79) (v := 2) (ls' := [(1, .inl 2), (0, .inr (.inr (some 42)))]) dX4_init_76 rfl (by decide) (by decide) rfl rfl ?_
  refine ex_goto (pc' := 57) dX4_init_79 (by decide) ?_
  refine ex_iload_n (pc' := 58) dX4_init_57 rfl rfl ?_
  refine ex_bipush (v := 12) (pc' := 60) dX4_init_58 (by decide) rfl ?_
  refine ex_icmp_f (pc' := 63) dX4_init_60 (by decide) (by decide) rfl ?_
  refine ex_aload_n (pc' := 64) dX4_init_63 rfl rfl ?_
  refine ex_getR (pc' := 67) (n := 15) (r := 45) dX4_init_64 fl_4_20 (by decide +kernel) (by decide) (by decide +kernel) rfl ?_
  refine ex_iload_n (pc' := 68) dX4_init_67 rfl rfl ?_
  refine en_new (pc' := 71) (a := 51) (nf := 4) (h2 := hh_103) dX4_init_68 kl_4_18 (by decide +kernel) rfl rfl ?_
  refine ex_dup (pc' := 72) dX4_init_71 rfl rfl ?_
  refine en_calliV (pc' := 75) (a := 51) (n := 4) (h2 := hh_103) (vs := []) (rest := [.inr (.inr (some 51)), .inl 2, .inr (.inr (some 45))]) dX4_init_72 ml_4_42 (by decide) ⟨by decide, by decide⟩ rfl rfl (by decide +kernel) (by decide) (by decide) rfl (kc_39 _) ?_
  refine en_aast (pc' := 76) (kd := 19) (n := 12) (nv := 4) (jj := 2) (h2 := hh_104) dX4_init_75 (by decide +kernel) (by decide +kernel) (by decide) (by decide) rfl rfl ?_
  refine ex_iinc (pc' := 79) (v := 3) (ls' := [(1, .inl 3), (0, .inr (.inr (some 42)))]) dX4_init_76 rfl (by decide) (by decide) rfl rfl ?_
  refine ex_goto (pc' := 57) dX4_init_79 (by decide) ?_
  refine ex_iload_n (pc' := 58) dX4_init_57 rfl rfl ?_
  refine ex_bipush (v := 12) (pc' := 60) dX4_init_58 (by decide) rfl ?_
  refine ex_icmp_f (pc' := 63) dX4_init_60 (by decide) (by decide) rfl ?_
  refine ex_aload_n (pc' := 64) dX4_init_63 rfl rfl ?_
  refine ex_getR (pc' := 67) (n := 15) (r := 45) dX4_init_64 fl_4_20 (by decide +kernel) (by decide) (by decide +kernel) rfl ?_
  refine ex_iload_n (pc' := 68) dX4_init_67 rfl rfl ?_
  refine en_new (pc' := 71) (a := 52) (nf := 4) (h2 := hh_105) dX4_init_68 kl_4_18 (by decide +kernel) rfl rfl ?_
  refine ex_dup (pc' := 72) dX4_init_71 rfl rfl ?_
  refine en_calliV (pc' := 75) (a := 52) (n := 4) (h2 := hh_105) (vs := []) (rest := [.inr (.inr (some 52)), .inl 3, .inr (.inr (some 45))]) dX4_init_72 ml_4_42 (by decide) ⟨by decide, by decide⟩ rfl rfl (by decide +kernel) (by decide) (by decide) rfl (kc_40 _) ?_
  refine en_aast (pc' := 76) (kd := 19) (n := 12) (nv := 4) (jj := 3) (h2 := hh_106) dX4_init_75 (by decide +kernel) (by decide +kernel) (by decide) (by decide) rfl rfl ?_
  refine ex_iinc (pc' := 79) (v := 4) (ls' := [(1, .inl 4), (0, .inr (.inr (some 42)))]) dX4_init_76 rfl (by decide) (by decide) rfl rfl ?_
  refine ex_goto (pc' := 57) dX4_init_79 (by decide) ?_
  refine ex_iload_n (pc' := 58) dX4_init_57 rfl rfl ?_
  refine ex_bipush (v := 12) (pc' := 60) dX4_init_58 (by decide) rfl ?_
  refine ex_icmp_f (pc' := 63) dX4_init_60 (by decide) (by decide) rfl ?_
  refine ex_aload_n (pc' := 64) dX4_init_63 rfl rfl ?_
  refine ex_getR (pc' := 67) (n := 15) (r := 45) dX4_init_64 fl_4_20 (by decide +kernel) (by decide) (by decide +kernel) rfl ?_
  refine ex_iload_n (pc' := 68) dX4_init_67 rfl rfl ?_
  refine en_new (pc' := 71) (a := 53) (nf := 4) (h2 := hh_107) dX4_init_68 kl_4_18 (by decide +kernel) rfl rfl ?_
  refine ex_dup (pc' := 72) dX4_init_71 rfl rfl ?_
  refine en_calliV (pc' := 75) (a := 53) (n := 4) (h2 := hh_107) (vs := []) (rest := [.inr (.inr (some 53)), .inl 4, .inr (.inr (some 45))]) dX4_init_72 ml_4_42 (by decide) ⟨by decide, by decide⟩ rfl rfl (by decide +kernel) (by decide) (by decide) rfl (kc_41 _) ?_
  refine en_aast (pc' := 76) (kd := 19) (n := 12) (nv := 4) (jj := 4) (h2 := hh_108) dX4_init_75 (by decide +kernel) (by decide +kernel) (by decide) (by decide) rfl rfl ?_
  refine ex_iinc (pc' := 79) (v := 5) (ls' := [(1, .inl 5), (0, .inr (.inr (some 42)))]) dX4_init_76 rfl (by decide) (by decide) rfl rfl ?_
  refine ex_goto (pc' := 57) dX4_init_79 (by decide) ?_
  refine ex_iload_n (pc' := 58) dX4_init_57 rfl rfl ?_
  refine ex_bipush (v := 12) (pc' := 60) dX4_init_58 (by decide) rfl ?_
  refine ex_icmp_f (pc' := 63) dX4_init_60 (by decide) (by decide) rfl ?_
  refine ex_aload_n (pc' := 64) dX4_init_63 rfl rfl ?_
  refine ex_getR (pc' := 67) (n := 15) (r := 45) dX4_init_64 fl_4_20 (by decide +kernel) (by decide) (by decide +kernel) rfl ?_
  refine ex_iload_n (pc' := 68) dX4_init_67 rfl rfl ?_
  refine en_new (pc' := 71) (a := 54) (nf := 4) (h2 := hh_109) dX4_init_68 kl_4_18 (by decide +kernel) rfl rfl ?_
  refine ex_dup (pc' := 72) dX4_init_71 rfl rfl ?_
  refine en_calliV (pc' := 75) (a := 54) (n := 4) (h2 := hh_109) (vs := []) (rest := [.inr (.inr (some 54)), .inl 5, .inr (.inr (some 45))]) dX4_init_72 ml_4_42 (by decide) ⟨by decide, by decide⟩ rfl rfl (by decide +kernel) (by decide) (by decide) rfl (kc_42 _) ?_
  refine en_aast (pc' := 76) (kd := 19) (n := 12) (nv := 4) (jj := 5) (h2 := hh_110) dX4_init_75 (by decide +kernel) (by decide +kernel) (by decide) (by decide) rfl rfl ?_
  refine ex_iinc (pc' := 79) (v := 6) (ls' := [(1, .inl 6), (0, .inr (.inr (some 42)))]) dX4_init_76 rfl (by decide) (by decide) rfl rfl ?_
  refine ex_goto (pc' := 57) dX4_init_79 (by decide) ?_
  refine ex_iload_n (pc' := 58) dX4_init_57 rfl rfl ?_
  refine ex_bipush (v := 12) (pc' := 60) dX4_init_58 (by decide) rfl ?_
  refine ex_icmp_f (pc' := 63) dX4_init_60 (by decide) (by decide) rfl ?_
  refine ex_aload_n (pc' := 64) dX4_init_63 rfl rfl ?_
  refine ex_getR (pc' := 67) (n := 15) (r := 45) dX4_init_64 fl_4_20 (by decide +kernel) (by decide) (by decide +kernel) rfl ?_
  refine ex_iload_n (pc' := 68) dX4_init_67 rfl rfl ?_
  refine en_new (pc' := 71) (a := 55) (nf := 4) (h2 := hh_111) dX4_init_68 kl_4_18 (by decide +kernel) rfl rfl ?_
  refine ex_dup (pc' := 72) dX4_init_71 rfl rfl ?_
  refine en_calliV (pc' := 75) (a := 55) (n := 4) (h2 := hh_111) (vs := []) (rest := [.inr (.inr (some 55)), .inl 6, .inr (.inr (some 45))]) dX4_init_72 ml_4_42 (by decide) ⟨by decide, by decide⟩ rfl rfl (by decide +kernel) (by decide) (by decide) rfl (kc_43 _) ?_
  refine en_aast (pc' := 76) (kd := 19) (n := 12) (nv := 4) (jj := 6) (h2 := hh_112) dX4_init_75 (by decide +kernel) (by decide +kernel) (by decide) (by decide) rfl rfl ?_
  refine ex_iinc (pc' := 79) (v := 7) (ls' := [(1, .inl 7), (0, .inr (.inr (some 42)))]) dX4_init_76 rfl (by decide) (by decide) rfl rfl ?_
  refine ex_goto (pc' := 57) dX4_init_79 (by decide) ?_
  refine ex_iload_n (pc' := 58) dX4_init_57 rfl rfl ?_
  refine ex_bipush (v := 12) (pc' := 60) dX4_init_58 (by decide) rfl ?_
  refine ex_icmp_f (pc' := 63) dX4_init_60 (by decide) (by decide) rfl ?_
  refine ex_aload_n (pc' := 64) dX4_init_63 rfl rfl ?_
  refine ex_getR (pc' := 67) (n := 15) (r := 45) dX4_init_64 fl_4_20 (by decide +kernel) (by decide) (by decide +kernel) rfl ?_
  refine ex_iload_n (pc' := 68) dX4_init_67 rfl rfl ?_
  refine en_new (pc' := 71) (a := 56) (nf := 4) (h2 := hh_113) dX4_init_68 kl_4_18 (by decide +kernel) rfl rfl ?_
  refine ex_dup (pc' := 72) dX4_init_71 rfl rfl ?_
  refine en_calliV (pc' := 75) (a := 56) (n := 4) (h2 := hh_113) (vs := []) (rest := [.inr (.inr (some 56)), .inl 7, .inr (.inr (some 45))]) dX4_init_72 ml_4_42 (by decide) ⟨by decide, by decide⟩ rfl rfl (by decide +kernel) (by decide) (by decide) rfl (kc_44 _) ?_
  refine en_aast (pc' := 76) (kd := 19) (n := 12) (nv := 4) (jj := 7) (h2 := hh_114) dX4_init_75 (by decide +kernel) (by decide +kernel) (by decide) (by decide) rfl rfl ?_
  refine ex_iinc (pc' := 79) (v := 8) (ls' := [(1, .inl 8), (0, .inr (.inr (some 42)))]) dX4_init_76 rfl (by decide) (by decide) rfl rfl ?_
  refine ex_goto (pc' := 57) dX4_init_79 (by decide) ?_
  refine ex_iload_n (pc' := 58) dX4_init_57 rfl rfl ?_
  refine ex_bipush (v := 12) (pc' := 60) dX4_init_58 (by decide) rfl ?_
  refine ex_icmp_f (pc' := 63) dX4_init_60 (by decide) (by decide) rfl ?_
  refine ex_aload_n (pc' := 64) dX4_init_63 rfl rfl ?_
  refine ex_getR (pc' := 67) (n := 15) (r := 45) dX4_init_64 fl_4_20 (by decide +kernel) (by decide) (by decide +kernel) rfl ?_
  refine ex_iload_n (pc' := 68) dX4_init_67 rfl rfl ?_
  refine en_new (pc' := 71) (a := 57) (nf := 4) (h2 := hh_115) dX4_init_68 kl_4_18 (by decide +kernel) rfl rfl ?_
  refine ex_dup (pc' := 72) dX4_init_71 rfl rfl ?_
  refine en_calliV (pc' := 75) (a := 57) (n := 4) (h2 := hh_115) (vs := []) (rest := [.inr (.inr (some 57)), .inl 8, .inr (.inr (some 45))]) dX4_init_72 ml_4_42 (by decide) ⟨by decide, by decide⟩ rfl rfl (by decide +kernel) (by decide) (by decide) rfl (kc_45 _) ?_
  refine en_aast (pc' := 76) (kd := 19) (n := 12) (nv := 4) (jj := 8) (h2 := hh_116) dX4_init_75 (by decide +kernel) (by decide +kernel) (by decide) (by decide) rfl rfl ?_
  refine ex_iinc (pc' := 79) (v := 9) (ls' := [(1, .inl 9), (0, .inr (.inr (some 42)))]) dX4_init_76 rfl (by decide) (by decide) rfl rfl ?_
  refine ex_goto (pc' := 57) dX4_init_79 (by decide) ?_
  refine ex_iload_n (pc' := 58) dX4_init_57 rfl rfl ?_
  refine ex_bipush (v := 12) (pc' := 60) dX4_init_58 (by decide) rfl ?_
  refine ex_icmp_f (pc' := 63) dX4_init_60 (by decide) (by decide) rfl ?_
  refine ex_aload_n (pc' := 64) dX4_init_63 rfl rfl ?_
  refine ex_getR (pc' := 67) (n := 15) (r := 45) dX4_init_64 fl_4_20 (by decide +kernel) (by decide) (by decide +kernel) rfl ?_
  refine ex_iload_n (pc' := 68) dX4_init_67 rfl rfl ?_
  refine en_new (pc' := 71) (a := 58) (nf := 4) (h2 := hh_117) dX4_init_68 kl_4_18 (by decide +kernel) rfl rfl ?_
  refine ex_dup (pc' := 72) dX4_init_71 rfl rfl ?_
  refine en_calliV (pc' := 75) (a := 58) (n := 4) (h2 := hh_117) (vs := []) (rest := [.inr (.inr (some 58)), .inl 9, .inr (.inr (some 45))]) dX4_init_72 ml_4_42 (by decide) ⟨by decide, by decide⟩ rfl rfl (by decide +kernel) (by decide) (by decide) rfl (kc_46 _) ?_
  refine en_aast (pc' := 76) (kd := 19) (n := 12) (nv := 4) (jj := 9) (h2 := hh_118) dX4_init_75 (by decide +kernel) (by decide +kernel) (by decide) (by decide) rfl rfl ?_
  refine ex_iinc (pc' := 79) (v := 10) (ls' := [(1, .inl 10), (0, .inr (.inr (some 42)))]) dX4_init_76 rfl (by decide) (by decide) rfl rfl ?_
  refine ex_goto (pc' := 57) dX4_init_79 (by decide) ?_
  refine ex_iload_n (pc' := 58) dX4_init_57 rfl rfl ?_
  refine ex_bipush (v := 12) (pc' := 60) dX4_init_58 (by decide) rfl ?_
  refine ex_icmp_f (pc' := 63) dX4_init_60 (by decide) (by decide) rfl ?_
  refine ex_aload_n (pc' := 64) dX4_init_63 rfl rfl ?_
  refine ex_getR (pc' := 67) (n := 15) (r := 45) dX4_init_64 fl_4_20 (by decide +kernel) (by decide) (by decide +kernel) rfl ?_
  refine ex_iload_n (pc' := 68) dX4_init_67 rfl rfl ?_
  refine en_new (pc' := 71) (a := 59) (nf := 4) (h2 := hh_119) dX4_init_68 kl_4_18 (by decide +kernel) rfl rfl ?_
  refine ex_dup (pc' := 72) dX4_init_71 rfl rfl ?_
  refine en_calliV (pc' := 75) (a := 59) (n := 4) (h2 := hh_119) (vs := []) (rest := [.inr (.inr (some 59)), .inl 10, .inr (.inr (some 45))]) dX4_init_72 ml_4_42 (by decide) ⟨by decide, by decide⟩ rfl rfl (by decide +kernel) (by decide) (by decide) rfl (kc_47 _) ?_
  refine en_aast (pc' := 76) (kd := 19) (n := 12) (nv := 4) (jj := 10) (h2 := hh_120) dX4_init_75 (by decide +kernel) (by decide +kernel) (by decide) (by decide) rfl rfl ?_
  refine ex_iinc (pc' := 79) (v := 11) (ls' := [(1, .inl 11), (0, .inr (.inr (some 42)))]) dX4_init_76 rfl (by decide) (by decide) rfl rfl ?_
  refine ex_goto (pc' := 57) dX4_init_79 (by decide) ?_
  refine ex_iload_n (pc' := 58) dX4_init_57 rfl rfl ?_
  refine ex_bipush (v := 12) (pc' := 60) dX4_init_58 (by decide) rfl ?_
  refine ex_icmp_f (pc' := 63) dX4_init_60 (by decide) (by decide) rfl ?_
  refine ex_aload_n (pc' := 64) dX4_init_63 rfl rfl ?_
  refine ex_getR (pc' := 67) (n := 15) (r := 45) dX4_init_64 fl_4_20 (by decide +kernel) (by decide) (by decide +kernel) rfl ?_
  refine ex_iload_n (pc' := 68) dX4_init_67 rfl rfl ?_
  refine en_new (pc' := 71) (a := 60) (nf := 4) (h2 := hh_121) dX4_init_68 kl_4_18 (by decide +kernel) rfl rfl ?_
  refine ex_dup (pc' := 72) dX4_init_71 rfl rfl ?_
  refine en_calliV (pc' := 75) (a := 60) (n := 4) (h2 := hh_121) (vs := []) (rest := [.inr (.inr (some 60)), .inl 11, .inr (.inr (some 45))]) dX4_init_72 ml_4_42 (by decide) ⟨by decide, by decide⟩ rfl rfl (by decide +kernel) (by decide) (by decide) rfl (kc_48 _) ?_
  refine en_aast (pc' := 76) (kd := 19) (n := 12) (nv := 4) (jj := 11) (h2 := hh_122) dX4_init_75 (by decide +kernel) (by decide +kernel) (by decide) (by decide) rfl rfl ?_
  refine ex_iinc (pc' := 79) (v := 12) (ls' := [(1, .inl 12), (0, .inr (.inr (some 42)))]) dX4_init_76 rfl (by decide) (by decide) rfl rfl ?_
  refine ex_goto (pc' := 57) dX4_init_79 (by decide) ?_
  refine ex_iload_n (pc' := 58) dX4_init_57 rfl rfl ?_
  refine ex_bipush (v := 12) (pc' := 60) dX4_init_58 (by decide) rfl ?_
  refine ex_icmp_t (pc' := 82) dX4_init_60 (by decide) (by decide) ?_
  refine ex_iconst (v := 0) (pc' := 83) dX4_init_82 (by decide) rfl ?_
  refine ex_istore_n (pc' := 84) (ls' := [(1, .inl 0), (0, .inr (.inr (some 42)))]) dX4_init_83 (by decide) rfl rfl ?_
  refine ex_iload_n (pc' := 85) dX4_init_84 rfl rfl ?_
  refine ex_iconst (v := 5) (pc' := 86) dX4_init_85 (by decide) rfl ?_
  refine ex_icmp_f (pc' := 89) dX4_init_86 (by decide) (by decide) rfl ?_
  refine ex_aload_n (pc' := 90) dX4_init_89 rfl rfl ?_
  refine ex_getR (pc' := 93) (n := 15) (r := 46) dX4_init_90 fl_4_26 (by decide +kernel) (by decide) (by decide +kernel) rfl ?_
  refine ex_iload_n (pc' := 94) dX4_init_93 rfl rfl ?_
  refine en_new (pc' := 97) (a := 61) (nf := 4) (h2 := hh_123) dX4_init_94 kl_4_24 (by decide +kernel) rfl rfl ?_
  refine ex_dup (pc' := 98) dX4_init_97 rfl rfl ?_
  refine en_calliV (pc' := 101) (a := 61) (n := 4) (h2 := hh_123) (vs := []) (rest := [.inr (.inr (some 61)), .inl 0, .inr (.inr (some 46))]) dX4_init_98 ml_4_43 (by decide) ⟨by decide, by decide⟩ rfl rfl (by decide +kernel) (by decide) (by decide) rfl (kc_49 _) ?_
  refine en_aast (pc' := 102) (kd := 20) (n := 5) (nv := 4) (jj := 0) (h2 := hh_124) dX4_init_101 (by decide +kernel) (by decide +kernel) (by decide) (by decide) rfl rfl ?_
  refine ex_iinc (pc' := 105) (v := 1) (ls' := [(1, .inl 1), (0, .inr (.inr (some 42)))]) dX4_init_102 rfl (by decide) (by decide) rfl rfl ?_
  refine ex_goto (pc' := 84) dX4_init_105 (by decide) ?_
  refine ex_iload_n (pc' := 85) dX4_init_84 rfl rfl ?_
  refine ex_iconst (v := 5) (pc' := 86) dX4_init_85 (by decide) rfl ?_
  refine ex_icmp_f (pc' := 89) dX4_init_86 (by decide) (by decide) rfl ?_
  refine ex_aload_n (pc' := 90) dX4_init_89 rfl rfl ?_
  refine ex_getR (pc' := 93) (n := 15) (r := 46) dX4_init_90 fl_4_26 (by decide +kernel) (by decide) (by decide +kernel) rfl ?_
  refine ex_iload_n (pc' := 94) dX4_init_93 rfl rfl ?_
  refine en_new (pc' := 97) (a := 62) (nf := 4) (h2 := hh_125) dX4_init_94 kl_4_24 (by decide +kernel) rfl rfl ?_
  refine ex_dup (pc' := 98) dX4_init_97 rfl rfl ?_
  refine en_calliV (pc' := 101) (a := 62) (n := 4) (h2 := hh_125) (vs := []) (rest := [.inr (.inr (some 62)), .inl 1, .inr (.inr (some 46))]) dX4_init_98 ml_4_43 (by decide) ⟨by decide, by decide⟩ rfl rfl (by decide +kernel) (by decide) (by decide) rfl (kc_50 _) ?_
  refine en_aast (pc' := 102) (kd := 20) (n := 5) (nv := 4) (jj := 1) (h2 := hh_126) dX4_init_101 (by decide +kernel) (by decide +kernel) (by decide) (by decide) rfl rfl ?_
  refine ex_iinc (pc' := 105) (v := 2) (ls' := [(1, .inl 2), (0, .inr (.inr (some 42)))]) dX4_init_102 rfl (by decide) (by decide) rfl rfl ?_
  refine ex_goto (pc' := 84) dX4_init_105 (by decide) ?_
  refine ex_iload_n (pc' := 85) dX4_init_84 rfl rfl ?_
  refine ex_iconst (v := 5) (pc' := 86) dX4_init_85 (by decide) rfl ?_
  refine ex_icmp_f (pc' := 89) dX4_init_86 (by decide) (by decide) rfl ?_
  refine ex_aload_n (pc' := 90) dX4_init_89 rfl rfl ?_
  refine ex_getR (pc' := 93) (n := 15) (r := 46) dX4_init_90 fl_4_26 (by decide +kernel) (by decide) (by decide +kernel) rfl ?_
  refine ex_iload_n (pc' := 94) dX4_init_93 rfl rfl ?_
  refine en_new (pc' := 97) (a := 63) (nf := 4) (h2 := hh_127) dX4_init_94 kl_4_24 (by decide +kernel) rfl rfl ?_
  refine ex_dup (pc' := 98) dX4_init_97 rfl rfl ?_
  refine en_calliV (pc' := 101) (a := 63) (n := 4) (h2 := hh_127) (vs := []) (rest := [.inr (.inr (some 63)), .inl 2, .inr (.inr (some 46))]) dX4_init_98 ml_4_43 (by decide) ⟨by decide, by decide⟩ rfl rfl (by decide +kernel) (by decide) (by decide) rfl (kc_51 _) ?_
  refine en_aast (pc' := 102) (kd := 20) (n := 5) (nv := 4) (jj := 2) (h2 := hh_128) dX4_init_101 (by decide +kernel) (by decide +kernel) (by decide) (by decide) rfl rfl ?_
  refine ex_iinc (pc' := 105) (v := 3) (ls' := [(1, .inl 3), (0, .inr (.inr (some 42)))]) dX4_init_102 rfl (by decide) (by decide) rfl rfl ?_
  refine ex_goto (pc' := 84) dX4_init_105 (by decide) ?_
  refine ex_iload_n (pc' := 85) dX4_init_84 rfl rfl ?_
  refine ex_iconst (v := 5) (pc' := 86) dX4_init_85 (by decide) rfl ?_
  refine ex_icmp_f (pc' := 89) dX4_init_86 (by decide) (by decide) rfl ?_
  refine ex_aload_n (pc' := 90) dX4_init_89 rfl rfl ?_
  refine ex_getR (pc' := 93) (n := 15) (r := 46) dX4_init_90 fl_4_26 (by decide +kernel) (by decide) (by decide +kernel) rfl ?_
  refine ex_iload_n (pc' := 94) dX4_init_93 rfl rfl ?_
  refine en_new (pc' := 97) (a := 64) (nf := 4) (h2 := hh_129) dX4_init_94 kl_4_24 (by decide +kernel) rfl rfl ?_
  refine ex_dup (pc' := 98) dX4_init_97 rfl rfl ?_
  refine en_calliV (pc' := 101) (a := 64) (n := 4) (h2 := hh_129) (vs := []) (rest := [.inr (.inr (some 64)), .inl 3, .inr (.inr (some 46))]) dX4_init_98 ml_4_43 (by decide) ⟨by decide, by decide⟩ rfl rfl (by decide +kernel) (by decide) (by decide) rfl (kc_52 _) ?_
  refine en_aast (pc' := 102) (kd := 20) (n := 5) (nv := 4) (jj := 3) (h2 := hh_130) dX4_init_101 (by decide +kernel) (by decide +kernel) (by decide) (by decide) rfl rfl ?_
  refine ex_iinc (pc' := 105) (v := 4) (ls' := [(1, .inl 4), (0, .inr (.inr (some 42)))]) dX4_init_102 rfl (by decide) (by decide) rfl rfl ?_
  refine ex_goto (pc' := 84) dX4_init_105 (by decide) ?_
  refine ex_iload_n (pc' := 85) dX4_init_84 rfl rfl ?_
  refine ex_iconst (v := 5) (pc' := 86) dX4_init_85 (by decide) rfl ?_
  refine ex_icmp_f (pc' := 89) dX4_init_86 (by decide) (by decide) rfl ?_
  refine ex_aload_n (pc' := 90) dX4_init_89 rfl rfl ?_
  refine ex_getR (pc' := 93) (n := 15) (r := 46) dX4_init_90 fl_4_26 (by decide +kernel) (by decide) (by decide +kernel) rfl ?_
  refine ex_iload_n (pc' := 94) dX4_init_93 rfl rfl ?_
  refine en_new (pc' := 97) (a := 65) (nf := 4) (h2 := hh_131) dX4_init_94 kl_4_24 (by decide +kernel) rfl rfl ?_
  refine ex_dup (pc' := 98) dX4_init_97 rfl rfl ?_
  refine en_calliV (pc' := 101) (a := 65) (n := 4) (h2 := hh_131) (vs := []) (rest := [.inr (.inr (some 65)), .inl 4, .inr (.inr (some 46))]) dX4_init_98 ml_4_43 (by decide) ⟨by decide, by decide⟩ rfl rfl (by decide +kernel) (by decide) (by decide) rfl (kc_53 _) ?_
  refine en_aast (pc' := 102) (kd := 20) (n := 5) (nv := 4) (jj := 4) (h2 := hh_132) dX4_init_101 (by decide +kernel) (by decide +kernel) (by decide) (by decide) rfl rfl ?_
  refine ex_iinc (pc' := 105) (v := 5) (ls' := [(1, .inl 5), (0, .inr (.inr (some 42)))]) dX4_init_102 rfl (by decide) (by decide) rfl rfl ?_
  refine ex_goto (pc' := 84) dX4_init_105 (by decide) ?_
  refine ex_iload_n (pc' := 85) dX4_init_84 rfl rfl ?_
  refine ex_iconst (v := 5) (pc' := 86) dX4_init_85 (by decide) rfl ?_
  refine ex_icmp_t (pc' := 108) dX4_init_86 (by decide) (by decide) ?_
  refine ex_iconst (v := 0) (pc' := 109) dX4_init_108 (by decide) rfl ?_
  refine ex_istore_n (pc' := 110) (ls' := [(1, .inl 0), (0, .inr (.inr (some 42)))]) dX4_init_109 (by decide) rfl rfl ?_
  refine ex_iload_n (pc' := 111) dX4_init_110 rfl rfl ?_
  refine ex_bipush (v := 8) (pc' := 113) dX4_init_111 (by decide) rfl ?_
  refine ex_icmp_f (pc' := 116) dX4_init_113 (by decide) (by decide) rfl ?_
  refine ex_aload_n (pc' := 117) dX4_init_116 rfl rfl ?_
  refine ex_getR (pc' := 120) (n := 15) (r := 47) dX4_init_117 fl_4_32 (by decide +kernel) (by decide) (by decide +kernel) rfl ?_
  refine ex_iload_n (pc' := 121) dX4_init_120 rfl rfl ?_
  refine en_new (pc' := 124) (a := 66) (nf := 4) (h2 := hh_133) dX4_init_121 kl_4_30 (by decide +kernel) rfl rfl ?_
  refine ex_dup (pc' := 125) dX4_init_124 rfl rfl ?_
  refine en_calliV (pc' := 128) (a := 66) (n := 4) (h2 := hh_133) (vs := []) (rest := [.inr (.inr (some 66)), .inl 0, .inr (.inr (some 47))]) dX4_init_125 ml_4_44 (by decide) ⟨by decide, by decide⟩ rfl rfl (by decide +kernel) (by decide) (by decide) rfl (kc_54 _) ?_
  refine en_aast (pc' := 129) (kd := 16) (n := 8) (nv := 4) (jj := 0) (h2 := hh_134) dX4_init_128 (by decide +kernel) (by decide +kernel) (by decide) (by decide) rfl rfl ?_
  refine ex_iinc (pc' := 132) (v := 1) (ls' := [(1, .inl 1), (0, .inr (.inr (some 42)))]) dX4_init_129 rfl (by decide) (by decide) rfl rfl ?_
  refine ex_goto (pc' := 110) dX4_init_132 (by decide) ?_
  refine ex_iload_n (pc' := 111) dX4_init_110 rfl rfl ?_
  refine ex_bipush (v := 8) (pc' := 113) dX4_init_111 (by decide) rfl ?_
  refine ex_icmp_f (pc' := 116) dX4_init_113 (by decide) (by decide) rfl ?_
  refine ex_aload_n (pc' := 117) dX4_init_116 rfl rfl ?_
  refine ex_getR (pc' := 120) (n := 15) (r := 47) dX4_init_117 fl_4_32 (by decide +kernel) (by decide) (by decide +kernel) rfl ?_
  refine ex_iload_n (pc' := 121) dX4_init_120 rfl rfl ?_
  refine en_new (pc' := 124) (a := 67) (nf := 4) (h2 := hh_135) dX4_init_121 kl_4_30 (by decide +kernel) rfl rfl ?_
  refine ex_dup (pc' := 125) dX4_init_124 rfl rfl ?_
  refine en_calliV (pc' := 128) (a := 67) (n := 4) (h2 := hh_135) (vs := []) (rest := [.inr (.inr (some 67)), .inl 1, .inr (.inr (some 47))]) dX4_init_125 ml_4_44 (by decide) ⟨by decide, by decide⟩ rfl rfl (by decide +kernel) (by decide) (by decide) rfl (kc_55 _) ?_
  refine en_aast (pc' := 129) (kd := 16) (n := 8) (nv := 4) (jj := 1) (h2 := hh_136) dX4_init_128 (by decide +kernel) (by decide +kernel) (by decide) (by decide) rfl rfl ?_
  refine ex_iinc (pc' := 132) (v := 2) (ls' := [(1, .inl 2), (0, .inr (.inr (some 42)))]) dX4_init_129 rfl (by decide) (by decide) rfl rfl ?_
  refine ex_goto (pc' := 110) dX4_init_132 (by decide) ?_
  refine ex_iload_n (pc' := 111) dX4_init_110 rfl rfl ?_
  refine ex_bipush (v := 8) (pc' := 113) dX4_init_111 (by decide) rfl ?_
  refine ex_icmp_f (pc' := 116) dX4_init_113 (by decide) (by decide) rfl ?_
  refine ex_aload_n (pc' := 117) dX4_init_116 rfl rfl ?_
  refine ex_getR (pc' := 120) (n := 15) (r := 47) dX4_init_117 fl_4_32 (by decide +kernel) (by decide) (by decide +kernel) rfl ?_
  refine ex_iload_n (pc' := 121) dX4_init_120 rfl rfl ?_
  refine en_new (pc' := 124) (a := 68) (nf := 4) (h2 := hh_137) dX4_init_121 kl_4_30 (by decide +kernel) rfl rfl ?_
  refine ex_dup (pc' := 125) dX4_init_124 rfl rfl ?_
  refine en_calliV (pc' := 128) (a := 68) (n := 4) (h2 := hh_137) (vs := []) (rest := [.inr (.inr (some 68)), .inl 2, .inr (.inr (some 47))]) dX4_init_125 ml_4_44 (by decide) ⟨by decide, by decide⟩ rfl rfl (by decide +kernel) (by decide) (by decide) rfl (kc_56 _) ?_
  refine en_aast (pc' := 129) (kd := 16) (n := 8) (nv := 4) (jj := 2) (h2 := hh_138) dX4_init_128 (by decide +kernel) (by decide +kernel) (by decide) (by decide) rfl rfl ?_
  refine ex_iinc (pc' := 132) (v := 3) (ls' := [(1, .inl 3), (0, .inr (.inr (some 42)))]) dX4_init_129 rfl (by decide) (by decide) rfl rfl ?_
  refine ex_goto (pc' := 110) dX4_init_132 (by decide) ?_
  refine ex_iload_n (pc' := 111) dX4_init_110 rfl rfl ?_
  refine ex_bipush (v := 8) (pc' := 113) dX4_init_111 (by decide) rfl ?_
  refine ex_icmp_f (pc' := 116) dX4_init_113 (by decide) (by decide) rfl ?_
  refine ex_aload_n (pc' := 117) dX4_init_116 rfl rfl ?_
  refine ex_getR (pc' := 120) (n := 15) (r := 47) dX4_init_117 fl_4_32 (by decide +kernel) (by decide) (by decide +kernel) rfl ?_
  refine ex_iload_n (pc' := 121) dX4_init_120 rfl rfl ?_
  refine en_new (pc' := 124) (a := 69) (nf := 4) (h2 := hh_139) dX4_init_121 kl_4_30 (by decide +kernel) rfl rfl ?_
  refine ex_dup (pc' := 125) dX4_init_124 rfl rfl ?_
  refine en_calliV (pc' := 128) (a := 69) (n := 4) (h2 := hh_139) (vs := []) (rest := [.inr (.inr (some 69)), .inl 3, .inr (.inr (some 47))]) dX4_init_125 ml_4_44 (by decide) ⟨by decide, by decide⟩ rfl rfl (by decide +kernel) (by decide) (by decide) rfl (kc_57 _) ?_
  refine en_aast (pc' := 129) (kd := 16) (n := 8) (nv := 4) (jj := 3) (h2 := hh_140) dX4_init_128 (by decide +kernel) (by decide +kernel) (by decide) (by decide) rfl rfl ?_
  refine ex_iinc (pc' := 132) (v := 4) (ls' := [(1, .inl 4), (0, .inr (.inr (some 42)))]) dX4_init_129 rfl (by decide) (by decide) rfl rfl ?_
  refine ex_goto (pc' := 110) dX4_init_132 (by decide) ?_
  refine ex_iload_n (pc' := 111) dX4_init_110 rfl rfl ?_
  refine ex_bipush (v := 8) (pc' := 113) dX4_init_111 (by decide) rfl ?_
  refine ex_icmp_f (pc' := 116) dX4_init_113 (by decide) (by decide) rfl ?_
  refine ex_aload_n (pc' := 117) dX4_init_116 rfl rfl ?_
  refine ex_getR (pc' := 120) (n := 15) (r := 47) dX4_init_117 fl_4_32 (by decide +kernel) (by decide) (by decide +kernel) rfl ?_
  refine ex_iload_n (pc' := 121) dX4_init_120 rfl rfl ?_
  refine en_new (pc' := 124) (a := 70) (nf := 4) (h2 := hh_141) dX4_init_121 kl_4_30 (by decide +kernel) rfl rfl ?_
  refine ex_dup (pc' := 125) dX4_init_124 rfl rfl ?_
  refine en_calliV (pc' := 128) (a := 70) (n := 4) (h2 := hh_141) (vs := []) (rest := [.inr (.inr (some 70)), .inl 4, .inr (.inr (some 47))]) dX4_init_125 ml_4_44 (by decide) ⟨by decide, by decide⟩ rfl rfl (by decide +kernel) (by decide) (by decide) rfl (kc_58 _) ?_
  refine en_aast (pc' := 129) (kd := 16) (n := 8) (nv := 4) (jj := 4) (h2 := hh_142) dX4_init_128 (by decide +kernel) (by decide +kernel) (by decide) (by decide) rfl rfl ?_
  refine ex_iinc (pc' := 132) (v := 5) (ls' := [(1, .inl 5), (0, .inr (.inr (some 42)))]) dX4_init_129 rfl (by decide) (by decide) rfl rfl ?_
  refine ex_goto (pc' := 110) dX4_init_132 (by decide) ?_
  refine ex_iload_n (pc' := 111) dX4_init_110 rfl rfl ?_
  refine ex_bipush (v := 8) (pc' := 113) dX4_init_111 (by decide) rfl ?_
  refine ex_icmp_f (pc' := 116) dX4_init_113 (by decide) (by decide) rfl ?_
  refine ex_aload_n (pc' := 117) dX4_init_116 rfl rfl ?_
  refine ex_getR (pc' := 120) (n := 15) (r := 47) dX4_init_117 fl_4_32 (by decide +kernel) (by decide) (by decide +kernel) rfl ?_
  refine ex_iload_n (pc' := 121) dX4_init_120 rfl rfl ?_
  refine en_new (pc' := 124) (a := 71) (nf := 4) (h2 := hh_143) dX4_init_121 kl_4_30 (by decide +kernel) rfl rfl ?_
  refine ex_dup (pc' := 125) dX4_init_124 rfl rfl ?_
  refine en_calliV (pc' := 128) (a := 71) (n := 4) (h2 := hh_143) (vs := []) (rest := [.inr (.inr (some 71)), .inl 5, .inr (.inr (some 47))]) dX4_init_125 ml_4_44 (by decide) ⟨by decide, by decide⟩ rfl rfl (by decide +kernel) (by decide) (by decide) rfl (kc_59 _) ?_
  refine en_aast (pc' := 129) (kd := 16) (n := 8) (nv := 4) (jj := 5) (h2 := hh_144) dX4_init_128 (by decide +kernel) (by decide +kernel) (by decide) (by decide) rfl rfl ?_
  refine ex_iinc (pc' := 132) (v := 6) (ls' := [(1, .inl 6), (0, .inr (.inr (some 42)))]) dX4_init_129 rfl (by decide) (by decide) rfl rfl ?_
  refine ex_goto (pc' := 110) dX4_init_132 (by decide) ?_
  refine ex_iload_n (pc' := 111) dX4_init_110 rfl rfl ?_
  refine ex_bipush (v := 8) (pc' := 113) dX4_init_111 (by decide) rfl ?_
  refine ex_icmp_f (pc' := 116) dX4_init_113 (by decide) (by decide) rfl ?_
  refine ex_aload_n (pc' := 117) dX4_init_116 rfl rfl ?_
  refine ex_getR (pc' := 120) (n := 15) (r := 47) dX4_init_117 fl_4_32 (by decide +kernel) (by decide) (by decide +kernel) rfl ?_
  refine ex_iload_n (pc' := 121) dX4_init_120 rfl rfl ?_
  refine en_new (pc' := 124) (a := 72) (nf := 4) (h2 := hh_145) dX4_init_121 kl_4_30 (by decide +kernel) rfl rfl ?_
  refine ex_dup (pc' := 125) dX4_init_124 rfl rfl ?_
  refine en_calliV (pc' := 128) (a := 72) (n := 4) (h2 := hh_145) (vs := []) (rest := [.inr (.inr (some 72)), .inl 6, .inr (.inr (some 47))]) dX4_init_125 ml_4_44 (by decide) ⟨by decide, by decide⟩ rfl rfl (by decide +kernel) (by decide) (by decide) rfl (kc_60 _) ?_
  refine en_aast (pc' := 129) (kd := 16) (n := 8) (nv := 4) (jj := 6) (h2 := hh_146) dX4_init_128 (by decide +kernel) (by decide +kernel) (by decide) (by decide) rfl rfl ?_
  refine ex_iinc (pc' := 132) (v := 7) (ls' := [(1, .inl 7), (0, .inr (.inr (some 42)))]) dX4_init_129 rfl (by decide) (by decide) rfl rfl ?_
  refine ex_goto (pc' := 110) dX4_init_132 (by decide) ?_
  refine ex_iload_n (pc' := 111) dX4_init_110 rfl rfl ?_
  refine ex_bipush (v := 8) (pc' := 113) dX4_init_111 (by decide) rfl ?_
  refine ex_icmp_f (pc' := 116) dX4_init_113 (by decide) (by decide) rfl ?_
  refine ex_aload_n (pc' := 117) dX4_init_116 rfl rfl ?_
  refine ex_getR (pc' := 120) (n := 15) (r := 47) dX4_init_117 fl_4_32 (by decide +kernel) (by decide) (by decide +kernel) rfl ?_
  refine ex_iload_n (pc' := 121) dX4_init_120 rfl rfl ?_
  refine en_new (pc' := 124) (a := 73) (nf := 4) (h2 := hh_147) dX4_init_121 kl_4_30 (by decide +kernel) rfl rfl ?_
  refine ex_dup (pc' := 125) dX4_init_124 rfl rfl ?_
  refine en_calliV (pc' := 128) (a := 73) (n := 4) (h2 := hh_147) (vs := []) (rest := [.inr (.inr (some 73)), .inl 7, .inr (.inr (some 47))]) dX4_init_125 ml_4_44 (by decide) ⟨by decide, by decide⟩ rfl rfl (by decide +kernel) (by decide) (by decide) rfl (kc_61 _) ?_
  refine en_aast (pc' := 129) (kd := 16) (n := 8) (nv := 4) (jj := 7) (h2 := hh_148) dX4_init_128 (by decide +kernel) (by decide +kernel) (by decide) (by decide) rfl rfl ?_
  refine ex_iinc (pc' := 132) (v := 8) (ls' := [(1, .inl 8), (0, .inr (.inr (some 42)))]) dX4_init_129 rfl (by decide) (by decide) rfl rfl ?_
  refine ex_goto (pc' := 110) dX4_init_132 (by decide) ?_
  refine ex_iload_n (pc' := 111) dX4_init_110 rfl rfl ?_
  refine ex_bipush (v := 8) (pc' := 113) dX4_init_111 (by decide) rfl ?_
  refine ex_icmp_t (pc' := 135) dX4_init_113 (by decide) (by decide) ?_
  refine ex_iconst (v := 0) (pc' := 136) dX4_init_135 (by decide) rfl ?_
  refine ex_istore_n (pc' := 137) (ls' := [(1, .inl 0), (0, .inr (.inr (some 42)))]) dX4_init_136 (by decide) rfl rfl ?_
  refine ex_iload_n (pc' := 138) dX4_init_137 rfl rfl ?_
  refine ex_bipush (v := 8) (pc' := 140) dX4_init_138 (by decide) rfl ?_
  refine ex_icmp_f (pc' := 143) dX4_init_140 (by decide) (by decide) rfl ?_
  refine ex_aload_n (pc' := 144) dX4_init_143 rfl rfl ?_
  refine ex_getR (pc' := 147) (n := 15) (r := 48) dX4_init_144 fl_4_38 (by decide +kernel) (by decide) (by decide +kernel) rfl ?_
  refine ex_iload_n (pc' := 148) dX4_init_147 rfl rfl ?_
  refine en_new (pc' := 151) (a := 74) (nf := 3) (h2 := hh_149) dX4_init_148 kl_4_36 (by decide +kernel) rfl rfl ?_
  refine ex_dup (pc' := 152) dX4_init_151 rfl rfl ?_
  refine en_calliV (pc' := 155) (a := 74) (n := 3) (h2 := hh_149) (vs := []) (rest := [.inr (.inr (some 74)), .inl 0, .inr (.inr (some 48))]) dX4_init_152 ml_4_45 (by decide) ⟨by decide, by decide⟩ rfl rfl (by decide +kernel) (by decide) (by decide) rfl (kc_62 _) ?_
  refine en_aast (pc' := 156) (kd := 18) (n := 8) (nv := 3) (jj := 0) (h2 := hh_150) dX4_init_155 (by decide +kernel) (by decide +kernel) (by decide) (by decide) rfl rfl ?_
  refine ex_iinc (pc' := 159) (v := 1) (ls' := [(1, .inl 1), (0, .inr (.inr (some 42)))]) dX4_init_156 rfl (by decide) (by decide) rfl rfl ?_
  refine ex_goto (pc' := 137) dX4_init_159 (by decide) ?_
  refine ex_iload_n (pc' := 138) dX4_init_137 rfl rfl ?_
  refine ex_bipush (v := 8) (pc' := 140) dX4_init_138 (by decide) rfl ?_
  refine ex_icmp_f (pc' := 143) dX4_init_140 (by decide) (by decide) rfl ?_
  refine ex_aload_n (pc' := 144) dX4_init_143 rfl rfl ?_
  refine ex_getR (pc' := 147) (n := 15) (r := 48) dX4_init_144 fl_4_38 (by decide +kernel) (by decide) (by decide +kernel) rfl ?_
  refine ex_iload_n (pc' := 148) dX4_init_147 rfl rfl ?_
  refine en_new (pc' := 151) (a := 75) (nf := 3) (h2 := hh_151) dX4_init_148 kl_4_36 (by decide +kernel) rfl rfl ?_
  refine ex_dup (pc' := 152) dX4_init_151 rfl rfl ?_
  refine en_calliV (pc' := 155) (a := 75) (n := 3) (h2 := hh_151) (vs := []) (rest := [.inr (.inr (some 75)), .inl 1, .inr (.inr (some 48))]) dX4_init_152 ml_4_45 (by decide) ⟨by decide, by decide⟩ rfl rfl (by decide +kernel) (by decide) (by decide) rfl (kc_63 _) ?_
  refine en_aast (pc' := 156) (kd := 18) (n := 8) (nv := 3) (jj := 1) (h2 := hh_152) dX4_init_155 (by decide +kernel) (by decide +kernel) (by decide) (by decide) rfl rfl ?_
  refine ex_iinc (pc' := 159) (v := 2) (ls' := [(1, .inl 2), (0, .inr (.inr (some 42)))]) dX4_init_156 rfl (by decide) (by decide) rfl rfl ?_
  refine ex_goto (pc' := 137) dX4_init_159 (by decide) ?_
  refine ex_iload_n (pc' := 138) dX4_init_137 rfl rfl ?_
  refine ex_bipush (v := 8) (pc' := 140) dX4_init_138 (by decide) rfl ?_
  refine ex_icmp_f (pc' := 143) dX4_init_140 (by decide) (by decide) rfl ?_
  refine ex_aload_n (pc' := 144) dX4_init_143 rfl rfl ?_
  refine ex_getR (pc' := 147) (n := 15) (r := 48) dX4_init_144 fl_4_38 (by decide +kernel) (by decide) (by decide +kernel) rfl ?_
  refine ex_iload_n (pc' := 148) dX4_init_147 rfl rfl ?_
  refine en_new (pc' := 151) (a := 76) (nf := 3) (h2 := hh_153) dX4_init_148 kl_4_36 (by decide +kernel) rfl rfl ?_
  refine ex_dup (pc' := 152) dX4_init_151 rfl rfl ?_
  refine en_calliV (pc' := 155) (a := 76) (n := 3) (h2 := hh_153) (vs := []) (rest := [.inr (.inr (some 76)), .inl 2, .inr (.inr (some 48))]) dX4_init_152 ml_4_45 (by decide) ⟨by decide, by decide⟩ rfl rfl (by decide +kernel) (by decide) (by decide) rfl (kc_64 _) ?_
  refine en_aast (pc' := 156) (kd := 18) (n := 8) (nv := 3) (jj := 2) (h2 := hh_154) dX4_init_155 (by decide +kernel) (by decide +kernel) (by decide) (by decide) rfl rfl ?_
  refine ex_iinc (pc' := 159) (v := 3) (ls' := [(1, .inl 3), (0, .inr (.inr (some 42)))]) dX4_init_156 rfl (by decide) (by decide) rfl rfl ?_
  refine ex_goto (pc' := 137) dX4_init_159 (by decide) ?_
  refine ex_iload_n (pc' := 138) dX4_init_137 rfl rfl ?_
  refine ex_bipush (v := 8) (pc' := 140) dX4_init_138 (by decide) rfl ?_
  refine ex_icmp_f (pc' := 143) dX4_init_140 (by decide) (by decide) rfl ?_
  refine ex_aload_n (pc' := 144) dX4_init_143 rfl rfl ?_
  refine ex_getR (pc' := 147) (n := 15) (r := 48) dX4_init_144 fl_4_38 (by decide +kernel) (by decide) (by decide +kernel) rfl ?_
  refine ex_iload_n (pc' := 148) dX4_init_147 rfl rfl ?_
  refine en_new (pc' := 151) (a := 77) (nf := 3) (h2 := hh_155) dX4_init_148 kl_4_36 (by decide +kernel) rfl rfl ?_
  refine ex_dup (pc' := 152) dX4_init_151 rfl rfl ?_
  refine en_calliV (pc' := 155) (a := 77) (n := 3) (h2 := hh_155) (vs := []) (rest := [.inr (.inr (some 77)), .inl 3, .inr (.inr (some 48))]) dX4_init_152 ml_4_45 (by decide) ⟨by decide, by decide⟩ rfl rfl (by decide +kernel) (by decide) (by decide) rfl (kc_65 _) ?_
  refine en_aast (pc' := 156) (kd := 18) (n := 8) (nv := 3) (jj := 3) (h2 := hh_156) dX4_init_155 (by decide +kernel) (by decide +kernel) (by decide) (by decide) rfl rfl ?_
  refine ex_iinc (pc' := 159) (v := 4) (ls' := [(1, .inl 4), (0, .inr (.inr (some 42)))]) dX4_init_156 rfl (by decide) (by decide) rfl rfl ?_
  refine ex_goto (pc' := 137) dX4_init_159 (by decide) ?_
  refine ex_iload_n (pc' := 138) dX4_init_137 rfl rfl ?_
  refine ex_bipush (v := 8) (pc' := 140) dX4_init_138 (by decide) rfl ?_
  refine ex_icmp_f (pc' := 143) dX4_init_140 (by decide) (by decide) rfl ?_
  refine ex_aload_n (pc' := 144) dX4_init_143 rfl rfl ?_
  refine ex_getR (pc' := 147) (n := 15) (r := 48) dX4_init_144 fl_4_38 (by decide +kernel) (by decide) (by decide +kernel) rfl ?_
  refine ex_iload_n (pc' := 148) dX4_init_147 rfl rfl ?_
  refine en_new (pc' := 151) (a := 78) (nf := 3) (h2 := hh_157) dX4_init_148 kl_4_36 (by decide +kernel) rfl rfl ?_
  refine ex_dup (pc' := 152) dX4_init_151 rfl rfl ?_
  refine en_calliV (pc' := 155) (a := 78) (n := 3) (h2 := hh_157) (vs := []) (rest := [.inr (.inr (some 78)), .inl 4, .inr (.inr (some 48))]) dX4_init_152 ml_4_45 (by decide) ⟨by decide, by decide⟩ rfl rfl (by decide +kernel) (by decide) (by decide) rfl (kc_66 _) ?_
  refine en_aast (pc' := 156) (kd := 18) (n := 8) (nv := 3) (jj := 4) (h2 := hh_158) dX4_init_155 (by decide +kernel) (by decide +kernel) (by decide) (by decide) rfl rfl ?_
  refine ex_iinc (pc' := 159) (v := 5) (ls' := [(1, .inl 5), (0, .inr (.inr (some 42)))]) dX4_init_156 rfl (by decide) (by decide) rfl rfl ?_
  refine ex_goto (pc' := 137) dX4_init_159 (by decide) ?_
  refine ex_iload_n (pc' := 138) dX4_init_137 rfl rfl ?_
  refine ex_bipush (v := 8) (pc' := 140) dX4_init_138 (by decide) rfl ?_
  refine ex_icmp_f (pc' := 143) dX4_init_140 (by decide) (by decide) rfl ?_
  refine ex_aload_n (pc' := 144) dX4_init_143 rfl rfl ?_
  refine ex_getR (pc' := 147) (n := 15) (r := 48) dX4_init_144 fl_4_38 (by decide +kernel) (by decide) (by decide +kernel) rfl ?_
  refine ex_iload_n (pc' := 148) dX4_init_147 rfl rfl ?_
  refine en_new (pc' := 151) (a := 79) (nf := 3) (h2 := hh_159) dX4_init_148 kl_4_36 (by decide +kernel) rfl rfl ?_
  refine ex_dup (pc' := 152) dX4_init_151 rfl rfl ?_
  refine en_calliV (pc' := 155) (a := 79) (n := 3) (h2 := hh_159) (vs := []) (rest := [.inr (.inr (some 79)), .inl 5, .inr (.inr (some 48))]) dX4_init_152 ml_4_45 (by decide) ⟨by decide, by decide⟩ rfl rfl (by decide +kernel) (by decide) (by decide) rfl (kc_67 _) ?_
  refine en_aast (pc' := 156) (kd := 18) (n := 8) (nv := 3) (jj := 5) (h2 := hh_160) dX4_init_155 (by decide +kernel) (by decide +kernel) (by decide) (by decide) rfl rfl ?_
  refine ex_iinc (pc' := 159) (v := 6) (ls' := [(1, .inl 6), (0, .inr (.inr (some 42)))]) dX4_init_156 rfl (by decide) (by decide) rfl rfl ?_
  refine ex_goto (pc' := 137) dX4_init_159 (by decide) ?_
  refine ex_iload_n (pc' := 138) dX4_init_137 rfl rfl ?_
  refine ex_bipush (v := 8) (pc' := 140) dX4_init_138 (by decide) rfl ?_
  refine ex_icmp_f (pc' := 143) dX4_init_140 (by decide) (by decide) rfl ?_
  refine ex_aload_n (pc' := 144) dX4_init_143 rfl rfl ?_
  refine ex_getR (pc' := 147) (n := 15) (r := 48) dX4_init_144 fl_4_38 (by decide +kernel) (by decide) (by decide +kernel) rfl ?_
  refine ex_iload_n (pc' := 148) dX4_init_147 rfl rfl ?_
  refine en_new (pc' := 151) (a := 80) (nf := 3) (h2 := hh_161) dX4_init_148 kl_4_36 (by decide +kernel) rfl rfl ?_
  refine ex_dup (pc' := 152) dX4_init_151 rfl rfl ?_
  refine en_calliV (pc' := 155) (a := 80) (n := 3) (h2 := hh_161) (vs := []) (rest := [.inr (.inr (some 80)), .inl 6, .inr (.inr (some 48))]) dX4_init_152 ml_4_45 (by decide) ⟨by decide, by decide⟩ rfl rfl (by decide +kernel) (by decide) (by decide) rfl (kc_68 _) ?_
  refine en_aast (pc' := 156) (kd := 18) (n := 8) (nv := 3) (jj := 6) (h2 := hh_162) dX4_init_155 (by decide +kernel) (by decide +kernel) (by decide) (by decide) rfl rfl ?_
  refine ex_iinc (pc' := 159) (v := 7) (ls' := [(1, .inl 7), (0, .inr (.inr (some 42)))]) dX4_init_156 rfl (by decide) (by decide) rfl rfl ?_
  refine ex_goto (pc' := 137) dX4_init_159 (by decide) ?_
  refine ex_iload_n (pc' := 138) dX4_init_137 rfl rfl ?_
  refine ex_bipush (v := 8) (pc' := 140) dX4_init_138 (by decide) rfl ?_
  refine ex_icmp_f (pc' := 143) dX4_init_140 (by decide) (by decide) rfl ?_
  refine ex_aload_n (pc' := 144) dX4_init_143 rfl rfl ?_
  refine ex_getR (pc' := 147) (n := 15) (r := 48) dX4_init_144 fl_4_38 (by decide +kernel) (by decide) (by decide +kernel) rfl ?_
  refine ex_iload_n (pc' := 148) dX4_init_147 rfl rfl ?_
  refine en_new (pc' := 151) (a := 81) (nf := 3) (h2 := hh_163) dX4_init_148 kl_4_36 (by decide +kernel) rfl rfl ?_
  refine ex_dup (pc' := 152) dX4_init_151 rfl rfl ?_
  refine en_calliV (pc' := 155) (a := 81) (n := 3) (h2 := hh_163) (vs := []) (rest := [.inr (.inr (some 81)), .inl 7, .inr (.inr (some 48))]) dX4_init_152 ml_4_45 (by decide) ⟨by decide, by decide⟩ rfl rfl (by decide +kernel) (by decide) (by decide) rfl (kc_69 _) ?_
  refine en_aast (pc' := 156) (kd := 18) (n := 8) (nv := 3) (jj := 7) (h2 := hh_164) dX4_init_155 (by decide +kernel) (by decide +kernel) (by decide) (by decide) rfl rfl ?_
  refine ex_iinc (pc' := 159) (v := 8) (ls' := [(1, .inl 8), (0, .inr (.inr (some 42)))]) dX4_init_156 rfl (by decide) (by decide) rfl rfl ?_
  refine ex_goto (pc' := 137) dX4_init_159 (by decide) ?_
  refine ex_iload_n (pc' := 138) dX4_init_137 rfl rfl ?_
  refine ex_bipush (v := 8) (pc' := 140) dX4_init_138 (by decide) rfl ?_
  refine ex_icmp_t (pc' := 162) dX4_init_140 (by decide) (by decide) ?_
  exact ex_vretV dX4_init_162 rfl rfl
set_option maxRecDepth 20000 in
theorem kc_70 (d : Nat) : zCv (d + 1) mX5_init [.inr (.inr (some 82)), .inr (.inr (some 1)), .inr (.inr (some 42))] hh_166 (fun h' => h' = hh_182) := by
  show zEx none (d + 1) mX5_init (0, [(0, .inr (.inr (some 82))), (1, .inr (.inr (some 1))), (2, .inr (.inr (some 42)))], [], hh_166) _
  refine ex_aload_n (pc' := 1) dX5_init_0 rfl rfl ?_
  refine ex_obj (pc' := 4) dX5_init_1 ml_5_3 (by decide) rfl ?_
  refine ex_aload_n (pc' := 5) dX5_init_4 rfl rfl ?_
  refine ex_iconst (v := 0) (pc' := 6) dX5_init_5 (by decide) rfl ?_
  refine en_putI (pc' := 9) (n := 13) (h2 := hh_167) dX5_init_6 fl_5_9 (by decide +kernel) (by decide) (by decide) rfl rfl ?_
  refine ex_aload_n (pc' := 10) dX5_init_9 rfl rfl ?_
  refine ex_iconst (v := 0) (pc' := 11) dX5_init_10 (by decide) rfl ?_
  refine en_putI (pc' := 14) (n := 13) (h2 := hh_168) dX5_init_11 fl_5_15 (by decide +kernel) (by decide) (by decide) rfl rfl ?_
  refine ex_aload_n (pc' := 15) dX5_init_14 rfl rfl ?_
  refine ex_iconst (v := 0) (pc' := 16) dX5_init_15 (by decide) rfl ?_
  refine en_putI (pc' := 19) (n := 13) (h2 := hh_169) dX5_init_16 fl_5_18 (by decide +kernel) (by decide) (by decide) rfl rfl ?_
  refine ex_aload_n (pc' := 20) dX5_init_19 rfl rfl ?_
  refine ex_iconst (v := 0) (pc' := 21) dX5_init_20 (by decide) rfl ?_
  refine en_putI (pc' := 24) (n := 13) (h2 := hh_170) dX5_init_21 fl_5_21 (by decide +kernel) (by decide) (by decide) rfl rfl ?_
  refine ex_aload_n (pc' := 25) dX5_init_24 rfl rfl ?_
  refine ex_iconst (v := 0) (pc' := 26) dX5_init_25 (by decide) rfl ?_
  refine en_putI (pc' := 29) (n := 13) (h2 := hh_171) dX5_init_26 fl_5_24 (by decide +kernel) (by decide) (by decide) rfl rfl ?_
  refine ex_aload_n (pc' := 30) dX5_init_29 rfl rfl ?_
  refine ex_bipush (v := 20) (pc' := 32) dX5_init_30 (by decide) rfl ?_
  refine en_narrL (pc' := 34) (a := 83) (nn := 20) (h2 := hh_172) dX5_init_32 (by decide +kernel) rfl rfl ?_
  refine en_putR (pc' := 37) (n := 13) (h2 := hh_173) dX5_init_34 fl_5_27 (by decide +kernel) (by decide) (by decide) rfl rfl ?_
  refine ex_aload_n (pc' := 38) dX5_init_37 rfl rfl ?_
  refine ex_bipush (v := 20) (pc' := 40) dX5_init_38 (by decide) rfl ?_
  refine en_narrI (pc' := 42) (a := 84) (nn := 20) (h2 := hh_174) dX5_init_40 (by decide +kernel) rfl rfl ?_
  refine en_putR (pc' := 45) (n := 13) (h2 := hh_175) dX5_init_42 fl_5_31 (by decide +kernel) (by decide) (by decide) rfl rfl ?_
  refine ex_aload_n (pc' := 46) dX5_init_45 rfl rfl ?_
  refine ex_bipush (v := 20) (pc' := 48) dX5_init_46 (by decide) rfl ?_
  refine en_narrI (pc' := 50) (a := 85) (nn := 20) (h2 := hh_176) dX5_init_48 (by decide +kernel) rfl rfl ?_
  refine en_putR (pc' := 53) (n := 13) (h2 := hh_177) dX5_init_50 fl_5_35 (by decide +kernel) (by decide) (by decide) rfl rfl ?_
  refine ex_aload_n (pc' := 54) dX5_init_53 rfl rfl ?_
  refine ex_iconst (v := 0) (pc' := 55) dX5_init_54 (by decide) rfl ?_
  refine en_putI (pc' := 58) (n := 13) (h2 := hh_178) dX5_init_55 fl_5_38 (by decide +kernel) (by decide) (by decide) rfl rfl ?_
  refine ex_aload_n (pc' := 59) dX5_init_58 rfl rfl ?_
  refine ex_iconst (v := 0) (pc' := 60) dX5_init_59 (by decide) rfl ?_
  refine en_putI (pc' := 63) (n := 13) (h2 := hh_179) dX5_init_60 fl_5_41 (by decide +kernel) (by decide) (by decide) rfl rfl ?_
  refine ex_aload_n (pc' := 64) dX5_init_63 rfl rfl ?_
  refine ex_iconst (v := (-1)) (pc' := 65) dX5_init_64 (by decide) rfl ?_
  refine en_putI (pc' := 68) (n := 13) (h2 := hh_180) dX5_init_65 fl_5_44 (by decide +kernel) (by decide) (by decide) rfl rfl ?_
  refine ex_aload_n (pc' := 69) dX5_init_68 rfl rfl ?_
  refine ex_aload_n (pc' := 70) dX5_init_69 rfl rfl ?_
  refine en_putR (pc' := 73) (n := 13) (h2 := hh_181) dX5_init_70 fl_5_47 (by decide +kernel) (by decide) (by decide) rfl rfl ?_
  refine ex_aload_n (pc' := 74) dX5_init_73 rfl rfl ?_
  refine ex_aload_n (pc' := 75) dX5_init_74 rfl rfl ?_
  refine en_putR (pc' := 78) (n := 13) (h2 := hh_182) dX5_init_75 fl_5_51 (by decide +kernel) (by decide) (by decide) rfl rfl ?_
  exact ex_vretV dX5_init_78 rfl rfl
set_option maxRecDepth 20000 in
theorem kc_71 (d : Nat) : zCv (d + 1) mX2_init [.inr (.inr (some 86))] hh_184 (fun h' => h' = hh_196) := by
  show zEx none (d + 1) mX2_init (0, [(0, .inr (.inr (some 86)))], [], hh_184) _
  refine ex_aload_n (pc' := 1) dX2_init_0 rfl rfl ?_
  refine ex_obj (pc' := 4) dX2_init_1 ml_2_3 (by decide) rfl ?_
  refine ex_aload_n (pc' := 5) dX2_init_4 rfl rfl ?_
  refine ex_iconst (v := 0) (pc' := 6) dX2_init_5 (by decide) rfl ?_
  refine en_putI (pc' := 9) (n := 7) (h2 := hh_185) dX2_init_6 fl_2_9 (by decide +kernel) (by decide) (by decide) rfl rfl ?_
  refine ex_aload_n (pc' := 10) dX2_init_9 rfl rfl ?_
  refine ex_iconst (v := 0) (pc' := 11) dX2_init_10 (by decide) rfl ?_
  refine en_putI (pc' := 14) (n := 7) (h2 := hh_186) dX2_init_11 fl_2_15 (by decide +kernel) (by decide) (by decide) rfl rfl ?_
  refine ex_aload_n (pc' := 15) dX2_init_14 rfl rfl ?_
  refine ex_iconst (v := 5) (pc' := 16) dX2_init_15 (by decide) rfl ?_
  refine en_narrI (pc' := 18) (a := 87) (nn := 5) (h2 := hh_187) dX2_init_16 (by decide +kernel) rfl rfl ?_
  refine en_putR (pc' := 21) (n := 7) (h2 := hh_188) dX2_init_18 fl_2_18 (by decide +kernel) (by decide) (by decide) rfl rfl ?_
  refine ex_aload_n (pc' := 22) dX2_init_21 rfl rfl ?_
  refine ex_iconst (v := 5) (pc' := 23) dX2_init_22 (by decide) rfl ?_
  refine en_narrI (pc' := 25) (a := 88) (nn := 5) (h2 := hh_189) dX2_init_23 (by decide +kernel) rfl rfl ?_
  refine en_putR (pc' := 28) (n := 7) (h2 := hh_190) dX2_init_25 fl_2_22 (by decide +kernel) (by decide) (by decide) rfl rfl ?_
  refine ex_aload_n (pc' := 29) dX2_init_28 rfl rfl ?_
  refine ex_bipush (v := 8) (pc' := 31) dX2_init_29 (by decide) rfl ?_
  refine en_narrI (pc' := 33) (a := 89) (nn := 8) (h2 := hh_191) dX2_init_31 (by decide +kernel) rfl rfl ?_
  refine en_putR (pc' := 36) (n := 7) (h2 := hh_192) dX2_init_33 fl_2_25 (by decide +kernel) (by decide) (by decide) rfl rfl ?_
  refine ex_aload_n (pc' := 37) dX2_init_36 rfl rfl ?_
  refine ex_bipush (v := 8) (pc' := 39) dX2_init_37 (by decide) rfl ?_
  refine en_narrI (pc' := 41) (a := 90) (nn := 8) (h2 := hh_193) dX2_init_39 (by decide +kernel) rfl rfl ?_
  refine en_putR (pc' := 44) (n := 7) (h2 := hh_194) dX2_init_41 fl_2_28 (by decide +kernel) (by decide) (by decide) rfl rfl ?_
  refine ex_aload_n (pc' := 45) dX2_init_44 rfl rfl ?_
  refine ex_bipush (v := 8) (pc' := 47) dX2_init_45 (by decide) rfl ?_
  refine en_narrI (pc' := 49) (a := 91) (nn := 8) (h2 := hh_195) dX2_init_47 (by decide +kernel) rfl rfl ?_
  refine en_putR (pc' := 52) (n := 7) (h2 := hh_196) dX2_init_49 fl_2_31 (by decide +kernel) (by decide) (by decide) rfl rfl ?_
  exact ex_vretV dX2_init_52 rfl rfl
set_option maxRecDepth 20000 in
theorem kc_72 (d : Nat) : zCv (d + 1) mX7_init [.inr (.inr (some 92)), .inr (.inr (some 2))] hh_198 (fun h' => h' = hh_205) := by
  show zEx none (d + 1) mX7_init (0, [(0, .inr (.inr (some 92))), (1, .inr (.inr (some 2)))], [], hh_198) _
  refine ex_aload_n (pc' := 1) dX7_init_0 rfl rfl ?_
  refine ex_obj (pc' := 4) dX7_init_1 ml_7_3 (by decide) rfl ?_
  refine ex_aload_n (pc' := 5) dX7_init_4 rfl rfl ?_
  refine ex_iconst (v := 0) (pc' := 6) dX7_init_5 (by decide) rfl ?_
  refine en_putI (pc' := 9) (n := 6) (h2 := hh_199) dX7_init_6 fl_7_9 (by decide +kernel) (by decide) (by decide) rfl rfl ?_
  refine ex_aload_n (pc' := 10) dX7_init_9 rfl rfl ?_
  refine ex_iconst (v := 0) (pc' := 11) dX7_init_10 (by decide) rfl ?_
  refine en_putI (pc' := 14) (n := 6) (h2 := hh_200) dX7_init_11 fl_7_15 (by decide +kernel) (by decide) (by decide) rfl rfl ?_
  refine ex_aload_n (pc' := 15) dX7_init_14 rfl rfl ?_
  refine ex_iconst (v := 0) (pc' := 16) dX7_init_15 (by decide) rfl ?_
  refine en_putI (pc' := 19) (n := 6) (h2 := hh_201) dX7_init_16 fl_7_18 (by decide +kernel) (by decide) (by decide) rfl rfl ?_
  refine ex_aload_n (pc' := 20) dX7_init_19 rfl rfl ?_
  refine ex_bipush (v := (-2)) (pc' := 22) dX7_init_20 (by decide) rfl ?_
  refine en_putI (pc' := 25) (n := 6) (h2 := hh_202) dX7_init_22 fl_7_21 (by decide +kernel) (by decide) (by decide) rfl rfl ?_
  refine ex_aload_n (pc' := 26) dX7_init_25 rfl rfl ?_
  refine ex_sipush (v := 1031) (pc' := 29) dX7_init_26 (by decide) rfl ?_
  refine en_narrI (pc' := 31) (a := 93) (nn := 1031) (h2 := hh_203) dX7_init_29 (by decide +kernel) rfl rfl ?_
  refine en_putR (pc' := 34) (n := 6) (h2 := hh_204) dX7_init_31 fl_7_24 (by decide +kernel) (by decide) (by decide) rfl rfl ?_
  refine ex_aload_n (pc' := 35) dX7_init_34 rfl rfl ?_
  refine ex_aload_n (pc' := 36) dX7_init_35 rfl rfl ?_
  refine en_putR (pc' := 39) (n := 6) (h2 := hh_205) dX7_init_36 fl_7_28 (by decide +kernel) (by decide) (by decide) rfl rfl ?_
  exact ex_vretV dX7_init_39 rfl rfl
set_option maxRecDepth 20000 in
theorem kc_73 (d : Nat) : zCv (d + 1) mX6_init [.inr (.inr (some 94)), .inr (.inr (some 2)), .inr (.inr (some 86)), .inr (.inr (some 92))] hh_207 (fun h' => h' = hh_215) := by
  show zEx none (d + 1) mX6_init (0, [(0, .inr (.inr (some 94))), (1, .inr (.inr (some 2))), (2, .inr (.inr (some 86))), (3, .inr (.inr (some 92)))], [], hh_207) _
  refine ex_aload_n (pc' := 1) dX6_init_0 rfl rfl ?_
  refine ex_obj (pc' := 4) dX6_init_1 ml_6_3 (by decide) rfl ?_
  refine ex_aload_n (pc' := 5) dX6_init_4 rfl rfl ?_
  refine ex_bipush (v := 7) (pc' := 7) dX6_init_5 (by decide) rfl ?_
  refine en_narrI (pc' := 9) (a := 95) (nn := 7) (h2 := hh_208) dX6_init_7 (by decide +kernel) rfl rfl ?_
  refine en_putR (pc' := 12) (n := 7) (h2 := hh_209) dX6_init_9 fl_6_9 (by decide +kernel) (by decide) (by decide) rfl rfl ?_
  refine ex_aload_n (pc' := 13) dX6_init_12 rfl rfl ?_
  refine ex_bipush (v := (-2)) (pc' := 15) dX6_init_13 (by decide) rfl ?_
  refine en_putI (pc' := 18) (n := 7) (h2 := hh_210) dX6_init_15 fl_6_15 (by decide +kernel) (by decide) (by decide) rfl rfl ?_
  refine ex_aload_n (pc' := 19) dX6_init_18 rfl rfl ?_
  refine ex_iconst (v := 0) (pc' := 20) dX6_init_19 (by decide) rfl ?_
  refine en_putI (pc' := 23) (n := 7) (h2 := hh_211) dX6_init_20 fl_6_19 (by decide +kernel) (by decide) (by decide) rfl rfl ?_
  refine ex_aload_n (pc' := 24) dX6_init_23 rfl rfl ?_
  refine ex_iconst (v := 0) (pc' := 25) dX6_init_24 (by decide) rfl ?_
  refine en_putI (pc' := 28) (n := 7) (h2 := hh_212) dX6_init_25 fl_6_22 (by decide +kernel) (by decide) (by decide) rfl rfl ?_
  refine ex_aload_n (pc' := 29) dX6_init_28 rfl rfl ?_
  refine ex_aload_n (pc' := 30) dX6_init_29 rfl rfl ?_
  refine en_putR (pc' := 33) (n := 7) (h2 := hh_213) dX6_init_30 fl_6_25 (by decide +kernel) (by decide) (by decide) rfl rfl ?_
  refine ex_aload_n (pc' := 34) dX6_init_33 rfl rfl ?_
  refine ex_aload_n (pc' := 35) dX6_init_34 rfl rfl ?_
  refine en_putR (pc' := 38) (n := 7) (h2 := hh_214) dX6_init_35 fl_6_29 (by decide +kernel) (by decide) (by decide) rfl rfl ?_
  refine ex_aload_n (pc' := 39) dX6_init_38 rfl rfl ?_
  refine ex_aload_n (pc' := 40) dX6_init_39 rfl rfl ?_
  refine en_putR (pc' := 43) (n := 7) (h2 := hh_215) dX6_init_40 fl_6_33 (by decide +kernel) (by decide) (by decide) rfl rfl ?_
  exact ex_vretV dX6_init_43 rfl rfl
set_option maxRecDepth 20000 in
theorem kc_74 (d : Nat) : zCv (d + 1) mX3_init [.inr (.inr (some 96)), .inr (.inr (some 2))] hh_217 (fun h' => h' = hh_224) := by
  show zEx none (d + 1) mX3_init (0, [(0, .inr (.inr (some 96))), (1, .inr (.inr (some 2)))], [], hh_217) _
  refine ex_aload_n (pc' := 1) dX3_init_0 rfl rfl ?_
  refine ex_obj (pc' := 4) dX3_init_1 ml_3_3 (by decide) rfl ?_
  refine ex_aload_n (pc' := 5) dX3_init_4 rfl rfl ?_
  refine ex_bipush (v := 7) (pc' := 7) dX3_init_5 (by decide) rfl ?_
  refine en_narrI (pc' := 9) (a := 97) (nn := 7) (h2 := hh_218) dX3_init_7 (by decide +kernel) rfl rfl ?_
  refine en_putR (pc' := 12) (n := 4) (h2 := hh_219) dX3_init_9 fl_3_9 (by decide +kernel) (by decide) (by decide) rfl rfl ?_
  refine ex_aload_n (pc' := 13) dX3_init_12 rfl rfl ?_
  refine ex_bipush (v := 49) (pc' := 15) dX3_init_13 (by decide) rfl ?_
  refine en_narrI (pc' := 17) (a := 98) (nn := 49) (h2 := hh_220) dX3_init_15 (by decide +kernel) rfl rfl ?_
  refine en_putR (pc' := 20) (n := 4) (h2 := hh_221) dX3_init_17 fl_3_15 (by decide +kernel) (by decide) (by decide) rfl rfl ?_
  refine ex_aload_n (pc' := 21) dX3_init_20 rfl rfl ?_
  refine ex_sipush (v := 896) (pc' := 24) dX3_init_21 (by decide) rfl ?_
  refine en_narrI (pc' := 26) (a := 99) (nn := 896) (h2 := hh_222) dX3_init_24 (by decide +kernel) rfl rfl ?_
  refine en_putR (pc' := 29) (n := 4) (h2 := hh_223) dX3_init_26 fl_3_18 (by decide +kernel) (by decide) (by decide) rfl rfl ?_
  refine ex_aload_n (pc' := 30) dX3_init_29 rfl rfl ?_
  refine ex_aload_n (pc' := 31) dX3_init_30 rfl rfl ?_
  refine en_putR (pc' := 34) (n := 4) (h2 := hh_224) dX3_init_31 fl_3_21 (by decide +kernel) (by decide) (by decide) rfl rfl ?_
  exact ex_vretV dX3_init_34 rfl rfl
set_option maxRecDepth 20000 in
theorem kc_75 (d : Nat) : zCv (d + 1) mX1_init [.inr (.inr (some 100))] hh_226 (fun h' => h' = hh_234) := by
  show zEx none (d + 1) mX1_init (0, [(0, .inr (.inr (some 100)))], [], hh_226) _
  refine ex_aload_n (pc' := 1) dX1_init_0 rfl rfl ?_
  refine ex_obj (pc' := 4) dX1_init_1 ml_1_3 (by decide) rfl ?_
  refine ex_aload_n (pc' := 5) dX1_init_4 rfl rfl ?_
  refine ex_bipush (v := 40) (pc' := 7) dX1_init_5 (by decide) rfl ?_
  refine en_narrI (pc' := 9) (a := 101) (nn := 40) (h2 := hh_227) dX1_init_7 (by decide +kernel) rfl rfl ?_
  refine en_putR (pc' := 12) (n := 5) (h2 := hh_228) dX1_init_9 fl_1_9 (by decide +kernel) (by decide) (by decide) rfl rfl ?_
  refine ex_aload_n (pc' := 13) dX1_init_12 rfl rfl ?_
  refine ex_bipush (v := 8) (pc' := 15) dX1_init_13 (by decide) rfl ?_
  refine en_narrI (pc' := 17) (a := 102) (nn := 8) (h2 := hh_229) dX1_init_15 (by decide +kernel) rfl rfl ?_
  refine en_putR (pc' := 20) (n := 5) (h2 := hh_230) dX1_init_17 fl_1_15 (by decide +kernel) (by decide) (by decide) rfl rfl ?_
  refine ex_aload_n (pc' := 21) dX1_init_20 rfl rfl ?_
  refine ex_iconst (v := 0) (pc' := 22) dX1_init_21 (by decide) rfl ?_
  refine en_putI (pc' := 25) (n := 5) (h2 := hh_231) dX1_init_22 fl_1_18 (by decide +kernel) (by decide) (by decide) rfl rfl ?_
  refine ex_aload_n (pc' := 26) dX1_init_25 rfl rfl ?_
  refine ex_iconst (v := 0) (pc' := 27) dX1_init_26 (by decide) rfl ?_
  refine en_putI (pc' := 30) (n := 5) (h2 := hh_232) dX1_init_27 fl_1_22 (by decide +kernel) (by decide) (by decide) rfl rfl ?_
  refine ex_aload_n (pc' := 31) dX1_init_30 rfl rfl ?_
  refine ex_sipush (v := 288) (pc' := 34) dX1_init_31 (by decide) rfl ?_
  refine en_narrI (pc' := 36) (a := 103) (nn := 288) (h2 := hh_233) dX1_init_34 (by decide +kernel) rfl rfl ?_
  refine en_putR (pc' := 39) (n := 5) (h2 := hh_234) dX1_init_36 fl_1_25 (by decide +kernel) (by decide) (by decide) rfl rfl ?_
  exact ex_vretV dX1_init_39 rfl rfl
set_option maxRecDepth 20000 in
theorem kc_76 (d : Nat) : zCv (d + 1) mX2_init [.inr (.inr (some 106))] hh_243 (fun h' => h' = hh_255) := by
  show zEx none (d + 1) mX2_init (0, [(0, .inr (.inr (some 106)))], [], hh_243) _
  refine ex_aload_n (pc' := 1) dX2_init_0 rfl rfl ?_
  refine ex_obj (pc' := 4) dX2_init_1 ml_2_3 (by decide) rfl ?_
  refine ex_aload_n (pc' := 5) dX2_init_4 rfl rfl ?_
  refine ex_iconst (v := 0) (pc' := 6) dX2_init_5 (by decide) rfl ?_
  refine en_putI (pc' := 9) (n := 7) (h2 := hh_244) dX2_init_6 fl_2_9 (by decide +kernel) (by decide) (by decide) rfl rfl ?_
  refine ex_aload_n (pc' := 10) dX2_init_9 rfl rfl ?_
  refine ex_iconst (v := 0) (pc' := 11) dX2_init_10 (by decide) rfl ?_
  refine en_putI (pc' := 14) (n := 7) (h2 := hh_245) dX2_init_11 fl_2_15 (by decide +kernel) (by decide) (by decide) rfl rfl ?_
  refine ex_aload_n (pc' := 15) dX2_init_14 rfl rfl ?_
  refine ex_iconst (v := 5) (pc' := 16) dX2_init_15 (by decide) rfl ?_
  refine en_narrI (pc' := 18) (a := 107) (nn := 5) (h2 := hh_246) dX2_init_16 (by decide +kernel) rfl rfl ?_
  refine en_putR (pc' := 21) (n := 7) (h2 := hh_247) dX2_init_18 fl_2_18 (by decide +kernel) (by decide) (by decide) rfl rfl ?_
  refine ex_aload_n (pc' := 22) dX2_init_21 rfl rfl ?_
  refine ex_iconst (v := 5) (pc' := 23) dX2_init_22 (by decide) rfl ?_
  refine en_narrI (pc' := 25) (a := 108) (nn := 5) (h2 := hh_248) dX2_init_23 (by decide +kernel) rfl rfl ?_
  refine en_putR (pc' := 28) (n := 7) (h2 := hh_249) dX2_init_25 fl_2_22 (by decide +kernel) (by decide) (by decide) rfl rfl ?_
  refine ex_aload_n (pc' := 29) dX2_init_28 rfl rfl ?_
  refine ex_bipush (v := 8) (pc' := 31) dX2_init_29 (by decide) rfl ?_
  refine en_narrI (pc' := 33) (a := 109) (nn := 8) (h2 := hh_250) dX2_init_31 (by decide +kernel) rfl rfl ?_
  refine en_putR (pc' := 36) (n := 7) (h2 := hh_251) dX2_init_33 fl_2_25 (by decide +kernel) (by decide) (by decide) rfl rfl ?_
  refine ex_aload_n (pc' := 37) dX2_init_36 rfl rfl ?_
  refine ex_bipush (v := 8) (pc' := 39) dX2_init_37 (by decide) rfl ?_
  refine en_narrI (pc' := 41) (a := 110) (nn := 8) (h2 := hh_252) dX2_init_39 (by decide +kernel) rfl rfl ?_
  refine en_putR (pc' := 44) (n := 7) (h2 := hh_253) dX2_init_41 fl_2_28 (by decide +kernel) (by decide) (by decide) rfl rfl ?_
  refine ex_aload_n (pc' := 45) dX2_init_44 rfl rfl ?_
  refine ex_bipush (v := 8) (pc' := 47) dX2_init_45 (by decide) rfl ?_
  refine en_narrI (pc' := 49) (a := 111) (nn := 8) (h2 := hh_254) dX2_init_47 (by decide +kernel) rfl rfl ?_
  refine en_putR (pc' := 52) (n := 7) (h2 := hh_255) dX2_init_49 fl_2_31 (by decide +kernel) (by decide) (by decide) rfl rfl ?_
  exact ex_vretV dX2_init_52 rfl rfl
set_option maxRecDepth 20000 in
theorem kc_77 (d : Nat) : zCv (d + 1) mX2_init [.inr (.inr (some 112))] hh_257 (fun h' => h' = hh_269) := by
  show zEx none (d + 1) mX2_init (0, [(0, .inr (.inr (some 112)))], [], hh_257) _
  refine ex_aload_n (pc' := 1) dX2_init_0 rfl rfl ?_
  refine ex_obj (pc' := 4) dX2_init_1 ml_2_3 (by decide) rfl ?_
  refine ex_aload_n (pc' := 5) dX2_init_4 rfl rfl ?_
  refine ex_iconst (v := 0) (pc' := 6) dX2_init_5 (by decide) rfl ?_
  refine en_putI (pc' := 9) (n := 7) (h2 := hh_258) dX2_init_6 fl_2_9 (by decide +kernel) (by decide) (by decide) rfl rfl ?_
  refine ex_aload_n (pc' := 10) dX2_init_9 rfl rfl ?_
  refine ex_iconst (v := 0) (pc' := 11) dX2_init_10 (by decide) rfl ?_
  refine en_putI (pc' := 14) (n := 7) (h2 := hh_259) dX2_init_11 fl_2_15 (by decide +kernel) (by decide) (by decide) rfl rfl ?_
  refine ex_aload_n (pc' := 15) dX2_init_14 rfl rfl ?_
  refine ex_iconst (v := 5) (pc' := 16) dX2_init_15 (by decide) rfl ?_
  refine en_narrI (pc' := 18) (a := 113) (nn := 5) (h2 := hh_260) dX2_init_16 (by decide +kernel) rfl rfl ?_
  refine en_putR (pc' := 21) (n := 7) (h2 := hh_261) dX2_init_18 fl_2_18 (by decide +kernel) (by decide) (by decide) rfl rfl ?_
  refine ex_aload_n (pc' := 22) dX2_init_21 rfl rfl ?_
  refine ex_iconst (v := 5) (pc' := 23) dX2_init_22 (by decide) rfl ?_
  refine en_narrI (pc' := 25) (a := 114) (nn := 5) (h2 := hh_262) dX2_init_23 (by decide +kernel) rfl rfl ?_
  refine en_putR (pc' := 28) (n := 7) (h2 := hh_263) dX2_init_25 fl_2_22 (by decide +kernel) (by decide) (by decide) rfl rfl ?_
  refine ex_aload_n (pc' := 29) dX2_init_28 rfl rfl ?_
  refine ex_bipush (v := 8) (pc' := 31) dX2_init_29 (by decide) rfl ?_
  refine en_narrI (pc' := 33) (a := 115) (nn := 8) (h2 := hh_264) dX2_init_31 (by decide +kernel) rfl rfl ?_
  refine en_putR (pc' := 36) (n := 7) (h2 := hh_265) dX2_init_33 fl_2_25 (by decide +kernel) (by decide) (by decide) rfl rfl ?_
  refine ex_aload_n (pc' := 37) dX2_init_36 rfl rfl ?_
  refine ex_bipush (v := 8) (pc' := 39) dX2_init_37 (by decide) rfl ?_
  refine en_narrI (pc' := 41) (a := 116) (nn := 8) (h2 := hh_266) dX2_init_39 (by decide +kernel) rfl rfl ?_
  refine en_putR (pc' := 44) (n := 7) (h2 := hh_267) dX2_init_41 fl_2_28 (by decide +kernel) (by decide) (by decide) rfl rfl ?_
  refine ex_aload_n (pc' := 45) dX2_init_44 rfl rfl ?_
  refine ex_bipush (v := 8) (pc' := 47) dX2_init_45 (by decide) rfl ?_
  refine en_narrI (pc' := 49) (a := 117) (nn := 8) (h2 := hh_268) dX2_init_47 (by decide +kernel) rfl rfl ?_
  refine en_putR (pc' := 52) (n := 7) (h2 := hh_269) dX2_init_49 fl_2_31 (by decide +kernel) (by decide) (by decide) rfl rfl ?_
  exact ex_vretV dX2_init_52 rfl rfl
set_option maxRecDepth 20000 in
theorem kc_78 (d : Nat) : zCv (d + 1) mX2_init [.inr (.inr (some 118))] hh_271 (fun h' => h' = hh_283) := by
  show zEx none (d + 1) mX2_init (0, [(0, .inr (.inr (some 118)))], [], hh_271) _
  refine ex_aload_n (pc' := 1) dX2_init_0 rfl rfl ?_
  refine ex_obj (pc' := 4) dX2_init_1 ml_2_3 (by decide) rfl ?_
  refine ex_aload_n (pc' := 5) dX2_init_4 rfl rfl ?_
  refine ex_iconst (v := 0) (pc' := 6) dX2_init_5 (by decide) rfl ?_
  refine en_putI (pc' := 9) (n := 7) (h2 := hh_272) dX2_init_6 fl_2_9 (by decide +kernel) (by decide) (by decide) rfl rfl ?_
  refine ex_aload_n (pc' := 10) dX2_init_9 rfl rfl ?_
  refine ex_iconst (v := 0) (pc' := 11) dX2_init_10 (by decide) rfl ?_
  refine en_putI (pc' := 14) (n := 7) (h2 := hh_273) dX2_init_11 fl_2_15 (by decide +kernel) (by decide) (by decide) rfl rfl ?_
  refine ex_aload_n (pc' := 15) dX2_init_14 rfl rfl ?_
  refine ex_iconst (v := 5) (pc' := 16) dX2_init_15 (by decide) rfl ?_
  refine en_narrI (pc' := 18) (a := 119) (nn := 5) (h2 := hh_274) dX2_init_16 (by decide +kernel) rfl rfl ?_
  refine en_putR (pc' := 21) (n := 7) (h2 := hh_275) dX2_init_18 fl_2_18 (by decide +kernel) (by decide) (by decide) rfl rfl ?_
  refine ex_aload_n (pc' := 22) dX2_init_21 rfl rfl ?_
  refine ex_iconst (v := 5) (pc' := 23) dX2_init_22 (by decide) rfl ?_
  refine en_narrI (pc' := 25) (a := 120) (nn := 5) (h2 := hh_276) dX2_init_23 (by decide +kernel) rfl rfl ?_
  refine en_putR (pc' := 28) (n := 7) (h2 := hh_277) dX2_init_25 fl_2_22 (by decide +kernel) (by decide) (by decide) rfl rfl ?_
  refine ex_aload_n (pc' := 29) dX2_init_28 rfl rfl ?_
  refine ex_bipush (v := 8) (pc' := 31) dX2_init_29 (by decide) rfl ?_
  refine en_narrI (pc' := 33) (a := 121) (nn := 8) (h2 := hh_278) dX2_init_31 (by decide +kernel) rfl rfl ?_
  refine en_putR (pc' := 36) (n := 7) (h2 := hh_279) dX2_init_33 fl_2_25 (by decide +kernel) (by decide) (by decide) rfl rfl ?_
  refine ex_aload_n (pc' := 37) dX2_init_36 rfl rfl ?_
  refine ex_bipush (v := 8) (pc' := 39) dX2_init_37 (by decide) rfl ?_
  refine en_narrI (pc' := 41) (a := 122) (nn := 8) (h2 := hh_280) dX2_init_39 (by decide +kernel) rfl rfl ?_
  refine en_putR (pc' := 44) (n := 7) (h2 := hh_281) dX2_init_41 fl_2_28 (by decide +kernel) (by decide) (by decide) rfl rfl ?_
  refine ex_aload_n (pc' := 45) dX2_init_44 rfl rfl ?_
  refine ex_bipush (v := 8) (pc' := 47) dX2_init_45 (by decide) rfl ?_
  refine en_narrI (pc' := 49) (a := 123) (nn := 8) (h2 := hh_282) dX2_init_47 (by decide +kernel) rfl rfl ?_
  refine en_putR (pc' := 52) (n := 7) (h2 := hh_283) dX2_init_49 fl_2_31 (by decide +kernel) (by decide) (by decide) rfl rfl ?_
  exact ex_vretV dX2_init_52 rfl rfl
set_option maxRecDepth 20000 in
theorem kc_79 (d : Nat) : zCv (d + 1) mX2_init [.inr (.inr (some 124))] hh_285 (fun h' => h' = hh_297) := by
  show zEx none (d + 1) mX2_init (0, [(0, .inr (.inr (some 124)))], [], hh_285) _
  refine ex_aload_n (pc' := 1) dX2_init_0 rfl rfl ?_
  refine ex_obj (pc' := 4) dX2_init_1 ml_2_3 (by decide) rfl ?_
  refine ex_aload_n (pc' := 5) dX2_init_4 rfl rfl ?_
  refine ex_iconst (v := 0) (pc' := 6) dX2_init_5 (by decide) rfl ?_
  refine en_putI (pc' := 9) (n := 7) (h2 := hh_286) dX2_init_6 fl_2_9 (by decide +kernel) (by decide) (by decide) rfl rfl ?_
  refine ex_aload_n (pc' := 10) dX2_init_9 rfl rfl ?_
  refine ex_iconst (v := 0) (pc' := 11) dX2_init_10 (by decide) rfl ?_
  refine en_putI (pc' := 14) (n := 7) (h2 := hh_287) dX2_init_11 fl_2_15 (by decide +kernel) (by decide) (by decide) rfl rfl ?_
  refine ex_aload_n (pc' := 15) dX2_init_14 rfl rfl ?_
  refine ex_iconst (v := 5) (pc' := 16) dX2_init_15 (by decide) rfl ?_
  refine en_narrI (pc' := 18) (a := 125) (nn := 5) (h2 := hh_288) dX2_init_16 (by decide +kernel) rfl rfl ?_
  refine en_putR (pc' := 21) (n := 7) (h2 := hh_289) dX2_init_18 fl_2_18 (by decide +kernel) (by decide) (by decide) rfl rfl ?_
  refine ex_aload_n (pc' := 22) dX2_init_21 rfl rfl ?_
  refine ex_iconst (v := 5) (pc' := 23) dX2_init_22 (by decide) rfl ?_
  refine en_narrI (pc' := 25) (a := 126) (nn := 5) (h2 := hh_290) dX2_init_23 (by decide +kernel) rfl rfl ?_
  refine en_putR (pc' := 28) (n := 7) (h2 := hh_291) dX2_init_25 fl_2_22 (by decide +kernel) (by decide) (by decide) rfl rfl ?_
  refine ex_aload_n (pc' := 29) dX2_init_28 rfl rfl ?_
  refine ex_bipush (v := 8) (pc' := 31) dX2_init_29 (by decide) rfl ?_
  refine en_narrI (pc' := 33) (a := 127) (nn := 8) (h2 := hh_292) dX2_init_31 (by decide +kernel) rfl rfl ?_
  refine en_putR (pc' := 36) (n := 7) (h2 := hh_293) dX2_init_33 fl_2_25 (by decide +kernel) (by decide) (by decide) rfl rfl ?_
  refine ex_aload_n (pc' := 37) dX2_init_36 rfl rfl ?_
  refine ex_bipush (v := 8) (pc' := 39) dX2_init_37 (by decide) rfl ?_
  refine en_narrI (pc' := 41) (a := 128) (nn := 8) (h2 := hh_294) dX2_init_39 (by decide +kernel) rfl rfl ?_
  refine en_putR (pc' := 44) (n := 7) (h2 := hh_295) dX2_init_41 fl_2_28 (by decide +kernel) (by decide) (by decide) rfl rfl ?_
  refine ex_aload_n (pc' := 45) dX2_init_44 rfl rfl ?_
  refine ex_bipush (v := 8) (pc' := 47) dX2_init_45 (by decide) rfl ?_
  refine en_narrI (pc' := 49) (a := 129) (nn := 8) (h2 := hh_296) dX2_init_47 (by decide +kernel) rfl rfl ?_
  refine en_putR (pc' := 52) (n := 7) (h2 := hh_297) dX2_init_49 fl_2_31 (by decide +kernel) (by decide) (by decide) rfl rfl ?_
  exact ex_vretV dX2_init_52 rfl rfl
set_option maxRecDepth 20000 in
theorem kc_80 (d : Nat) : zCv (d + 1) mX2_init [.inr (.inr (some 130))] hh_299 (fun h' => h' = hh_311) := by
  show zEx none (d + 1) mX2_init (0, [(0, .inr (.inr (some 130)))], [], hh_299) _
  refine ex_aload_n (pc' := 1) dX2_init_0 rfl rfl ?_
  refine ex_obj (pc' := 4) dX2_init_1 ml_2_3 (by decide) rfl ?_
  refine ex_aload_n (pc' := 5) dX2_init_4 rfl rfl ?_
  refine ex_iconst (v := 0) (pc' := 6) dX2_init_5 (by decide) rfl ?_
  refine en_putI (pc' := 9) (n := 7) (h2 := hh_300) dX2_init_6 fl_2_9 (by decide +kernel) (by decide) (by decide) rfl rfl ?_
  refine ex_aload_n (pc' := 10) dX2_init_9 rfl rfl ?_
  refine ex_iconst (v := 0) (pc' := 11) dX2_init_10 (by decide) rfl ?_
  refine en_putI (pc' := 14) (n := 7) (h2 := hh_301) dX2_init_11 fl_2_15 (by decide +kernel) (by decide) (by decide) rfl rfl ?_
  refine ex_aload_n (pc' := 15) dX2_init_14 rfl rfl ?_
  refine ex_iconst (v := 5) (pc' := 16) dX2_init_15 (by decide) rfl ?_
  refine en_narrI (pc' := 18) (a := 131) (nn := 5) (h2 := hh_302) dX2_init_16 (by decide +kernel) rfl rfl ?_
  refine en_putR (pc' := 21) (n := 7) (h2 := hh_303) dX2_init_18 fl_2_18 (by decide +kernel) (by decide) (by decide) rfl rfl ?_
  refine ex_aload_n (pc' := 22) dX2_init_21 rfl rfl ?_
  refine ex_iconst (v := 5) (pc' := 23) dX2_init_22 (by decide) rfl ?_
  refine en_narrI (pc' := 25) (a := 132) (nn := 5) (h2 := hh_304) dX2_init_23 (by decide +kernel) rfl rfl ?_
  refine en_putR (pc' := 28) (n := 7) (h2 := hh_305) dX2_init_25 fl_2_22 (by decide +kernel) (by decide) (by decide) rfl rfl ?_
  refine ex_aload_n (pc' := 29) dX2_init_28 rfl rfl ?_
  refine ex_bipush (v := 8) (pc' := 31) dX2_init_29 (by decide) rfl ?_
  refine en_narrI (pc' := 33) (a := 133) (nn := 8) (h2 := hh_306) dX2_init_31 (by decide +kernel) rfl rfl ?_
  refine en_putR (pc' := 36) (n := 7) (h2 := hh_307) dX2_init_33 fl_2_25 (by decide +kernel) (by decide) (by decide) rfl rfl ?_
  refine ex_aload_n (pc' := 37) dX2_init_36 rfl rfl ?_
  refine ex_bipush (v := 8) (pc' := 39) dX2_init_37 (by decide) rfl ?_
  refine en_narrI (pc' := 41) (a := 134) (nn := 8) (h2 := hh_308) dX2_init_39 (by decide +kernel) rfl rfl ?_
  refine en_putR (pc' := 44) (n := 7) (h2 := hh_309) dX2_init_41 fl_2_28 (by decide +kernel) (by decide) (by decide) rfl rfl ?_
  refine ex_aload_n (pc' := 45) dX2_init_44 rfl rfl ?_
  refine ex_bipush (v := 8) (pc' := 47) dX2_init_45 (by decide) rfl ?_
  refine en_narrI (pc' := 49) (a := 135) (nn := 8) (h2 := hh_310) dX2_init_47 (by decide +kernel) rfl rfl ?_
  refine en_putR (pc' := 52) (n := 7) (h2 := hh_311) dX2_init_49 fl_2_31 (by decide +kernel) (by decide) (by decide) rfl rfl ?_
  exact ex_vretV dX2_init_52 rfl rfl
set_option maxRecDepth 20000 in
theorem kc_81 (d : Nat) : zCv (d + 1) mX2_init [.inr (.inr (some 136))] hh_313 (fun h' => h' = hh_325) := by
  show zEx none (d + 1) mX2_init (0, [(0, .inr (.inr (some 136)))], [], hh_313) _
  refine ex_aload_n (pc' := 1) dX2_init_0 rfl rfl ?_
  refine ex_obj (pc' := 4) dX2_init_1 ml_2_3 (by decide) rfl ?_
  refine ex_aload_n (pc' := 5) dX2_init_4 rfl rfl ?_
  refine ex_iconst (v := 0) (pc' := 6) dX2_init_5 (by decide) rfl ?_
  refine en_putI (pc' := 9) (n := 7) (h2 := hh_314) dX2_init_6 fl_2_9 (by decide +kernel) (by decide) (by decide) rfl rfl ?_
  refine ex_aload_n (pc' := 10) dX2_init_9 rfl rfl ?_
  refine ex_iconst (v := 0) (pc' := 11) dX2_init_10 (by decide) rfl ?_
  refine en_putI (pc' := 14) (n := 7) (h2 := hh_315) dX2_init_11 fl_2_15 (by decide +kernel) (by decide) (by decide) rfl rfl ?_
  refine ex_aload_n (pc' := 15) dX2_init_14 rfl rfl ?_
  refine ex_iconst (v := 5) (pc' := 16) dX2_init_15 (by decide) rfl ?_
  refine en_narrI (pc' := 18) (a := 137) (nn := 5) (h2 := hh_316) dX2_init_16 (by decide +kernel) rfl rfl ?_
  refine en_putR (pc' := 21) (n := 7) (h2 := hh_317) dX2_init_18 fl_2_18 (by decide +kernel) (by decide) (by decide) rfl rfl ?_
  refine ex_aload_n (pc' := 22) dX2_init_21 rfl rfl ?_
  refine ex_iconst (v := 5) (pc' := 23) dX2_init_22 (by decide) rfl ?_
  refine en_narrI (pc' := 25) (a := 138) (nn := 5) (h2 := hh_318) dX2_init_23 (by decide +kernel) rfl rfl ?_
  refine en_putR (pc' := 28) (n := 7) (h2 := hh_319) dX2_init_25 fl_2_22 (by decide +kernel) (by decide) (by decide) rfl rfl ?_
  refine ex_aload_n (pc' := 29) dX2_init_28 rfl rfl ?_
  refine ex_bipush (v := 8) (pc' := 31) dX2_init_29 (by decide) rfl ?_
  refine en_narrI (pc' := 33) (a := 139) (nn := 8) (h2 := hh_320) dX2_init_31 (by decide +kernel) rfl rfl ?_
  refine en_putR (pc' := 36) (n := 7) (h2 := hh_321) dX2_init_33 fl_2_25 (by decide +kernel) (by decide) (by decide) rfl rfl ?_
  refine ex_aload_n (pc' := 37) dX2_init_36 rfl rfl ?_
  refine ex_bipush (v := 8) (pc' := 39) dX2_init_37 (by decide) rfl ?_
  refine en_narrI (pc' := 41) (a := 140) (nn := 8) (h2 := hh_322) dX2_init_39 (by decide +kernel) rfl rfl ?_
  refine en_putR (pc' := 44) (n := 7) (h2 := hh_323) dX2_init_41 fl_2_28 (by decide +kernel) (by decide) (by decide) rfl rfl ?_
  refine ex_aload_n (pc' := 45) dX2_init_44 rfl rfl ?_
  refine ex_bipush (v := 8) (pc' := 47) dX2_init_45 (by decide) rfl ?_
  refine en_narrI (pc' := 49) (a := 141) (nn := 8) (h2 := hh_324) dX2_init_47 (by decide +kernel) rfl rfl ?_
  refine en_putR (pc' := 52) (n := 7) (h2 := hh_325) dX2_init_49 fl_2_31 (by decide +kernel) (by decide) (by decide) rfl rfl ?_
  exact ex_vretV dX2_init_52 rfl rfl
set_option maxRecDepth 20000 in
theorem kc_82 (d : Nat) : zCv (d + 1) mX2_init [.inr (.inr (some 142))] hh_327 (fun h' => h' = hh_339) := by
  show zEx none (d + 1) mX2_init (0, [(0, .inr (.inr (some 142)))], [], hh_327) _
  refine ex_aload_n (pc' := 1) dX2_init_0 rfl rfl ?_
  refine ex_obj (pc' := 4) dX2_init_1 ml_2_3 (by decide) rfl ?_
  refine ex_aload_n (pc' := 5) dX2_init_4 rfl rfl ?_
  refine ex_iconst (v := 0) (pc' := 6) dX2_init_5 (by decide) rfl ?_
  refine en_putI (pc' := 9) (n := 7) (h2 := hh_328) dX2_init_6 fl_2_9 (by decide +kernel) (by decide) (by decide) rfl rfl ?_
  refine ex_aload_n (pc' := 10) dX2_init_9 rfl rfl ?_
  refine ex_iconst (v := 0) (pc' := 11) dX2_init_10 (by decide) rfl ?_
  refine en_putI (pc' := 14) (n := 7) (h2 := hh_329) dX2_init_11 fl_2_15 (by decide +kernel) (by decide) (by decide) rfl rfl ?_
  refine ex_aload_n (pc' := 15) dX2_init_14 rfl rfl ?_
  refine ex_iconst (v := 5) (pc' := 16) dX2_init_15 (by decide) rfl ?_
  refine en_narrI (pc' := 18) (a := 143) (nn := 5) (h2 := hh_330) dX2_init_16 (by decide +kernel) rfl rfl ?_
  refine en_putR (pc' := 21) (n := 7) (h2 := hh_331) dX2_init_18 fl_2_18 (by decide +kernel) (by decide) (by decide) rfl rfl ?_
  refine ex_aload_n (pc' := 22) dX2_init_21 rfl rfl ?_
  refine ex_iconst (v := 5) (pc' := 23) dX2_init_22 (by decide) rfl ?_
  refine en_narrI (pc' := 25) (a := 144) (nn := 5) (h2 := hh_332) dX2_init_23 (by decide +kernel) rfl rfl ?_
  refine en_putR (pc' := 28) (n := 7) (h2 := hh_333) dX2_init_25 fl_2_22 (by decide +kernel) (by decide) (by decide) rfl rfl ?_
  refine ex_aload_n (pc' := 29) dX2_init_28 rfl rfl ?_
  refine ex_bipush (v := 8) (pc' := 31) dX2_init_29 (by decide) rfl ?_
  refine en_narrI (pc' := 33) (a := 145) (nn := 8) (h2 := hh_334) dX2_init_31 (by decide +kernel) rfl rfl ?_
  refine en_putR (pc' := 36) (n := 7) (h2 := hh_335) dX2_init_33 fl_2_25 (by decide +kernel) (by decide) (by decide) rfl rfl ?_
  refine ex_aload_n (pc' := 37) dX2_init_36 rfl rfl ?_
  refine ex_bipush (v := 8) (pc' := 39) dX2_init_37 (by decide) rfl ?_
  refine en_narrI (pc' := 41) (a := 146) (nn := 8) (h2 := hh_336) dX2_init_39 (by decide +kernel) rfl rfl ?_
  refine en_putR (pc' := 44) (n := 7) (h2 := hh_337) dX2_init_41 fl_2_28 (by decide +kernel) (by decide) (by decide) rfl rfl ?_
  refine ex_aload_n (pc' := 45) dX2_init_44 rfl rfl ?_
  refine ex_bipush (v := 8) (pc' := 47) dX2_init_45 (by decide) rfl ?_
  refine en_narrI (pc' := 49) (a := 147) (nn := 8) (h2 := hh_338) dX2_init_47 (by decide +kernel) rfl rfl ?_
  refine en_putR (pc' := 52) (n := 7) (h2 := hh_339) dX2_init_49 fl_2_31 (by decide +kernel) (by decide) (by decide) rfl rfl ?_
  exact ex_vretV dX2_init_52 rfl rfl
set_option maxRecDepth 20000 in
theorem kc_83 (d : Nat) : zCv (d + 1) mX2_init [.inr (.inr (some 148))] hh_341 (fun h' => h' = hh_353) := by
  show zEx none (d + 1) mX2_init (0, [(0, .inr (.inr (some 148)))], [], hh_341) _
  refine ex_aload_n (pc' := 1) dX2_init_0 rfl rfl ?_
  refine ex_obj (pc' := 4) dX2_init_1 ml_2_3 (by decide) rfl ?_
  refine ex_aload_n (pc' := 5) dX2_init_4 rfl rfl ?_
  refine ex_iconst (v := 0) (pc' := 6) dX2_init_5 (by decide) rfl ?_
  refine en_putI (pc' := 9) (n := 7) (h2 := hh_342) dX2_init_6 fl_2_9 (by decide +kernel) (by decide) (by decide) rfl rfl ?_
  refine ex_aload_n (pc' := 10) dX2_init_9 rfl rfl ?_
  refine ex_iconst (v := 0) (pc' := 11) dX2_init_10 (by decide) rfl ?_
  refine en_putI (pc' := 14) (n := 7) (h2 := hh_343) dX2_init_11 fl_2_15 (by decide +kernel) (by decide) (by decide) rfl rfl ?_
  refine ex_aload_n (pc' := 15) dX2_init_14 rfl rfl ?_
  refine ex_iconst (v := 5) (pc' := 16) dX2_init_15 (by decide) rfl ?_
  refine en_narrI (pc' := 18) (a := 149) (nn := 5) (h2 := hh_344) dX2_init_16 (by decide +kernel) rfl rfl ?_
  refine en_putR (pc' := 21) (n := 7) (h2 := hh_345) dX2_init_18 fl_2_18 (by decide +kernel) (by decide) (by decide) rfl rfl ?_
  refine ex_aload_n (pc' := 22) dX2_init_21 rfl rfl ?_
  refine ex_iconst (v := 5) (pc' := 23) dX2_init_22 (by decide) rfl ?_
  refine en_narrI (pc' := 25) (a := 150) (nn := 5) (h2 := hh_346) dX2_init_23 (by decide +kernel) rfl rfl ?_
  refine en_putR (pc' := 28) (n := 7) (h2 := hh_347) dX2_init_25 fl_2_22 (by decide +kernel) (by decide) (by decide) rfl rfl ?_
  refine ex_aload_n (pc' := 29) dX2_init_28 rfl rfl ?_
  refine ex_bipush (v := 8) (pc' := 31) dX2_init_29 (by decide) rfl ?_
  refine en_narrI (pc' := 33) (a := 151) (nn := 8) (h2 := hh_348) dX2_init_31 (by decide +kernel) rfl rfl ?_
  refine en_putR (pc' := 36) (n := 7) (h2 := hh_349) dX2_init_33 fl_2_25 (by decide +kernel) (by decide) (by decide) rfl rfl ?_
  refine ex_aload_n (pc' := 37) dX2_init_36 rfl rfl ?_
  refine ex_bipush (v := 8) (pc' := 39) dX2_init_37 (by decide) rfl ?_
  refine en_narrI (pc' := 41) (a := 152) (nn := 8) (h2 := hh_350) dX2_init_39 (by decide +kernel) rfl rfl ?_
  refine en_putR (pc' := 44) (n := 7) (h2 := hh_351) dX2_init_41 fl_2_28 (by decide +kernel) (by decide) (by decide) rfl rfl ?_
  refine ex_aload_n (pc' := 45) dX2_init_44 rfl rfl ?_
  refine ex_bipush (v := 8) (pc' := 47) dX2_init_45 (by decide) rfl ?_
  refine en_narrI (pc' := 49) (a := 153) (nn := 8) (h2 := hh_352) dX2_init_47 (by decide +kernel) rfl rfl ?_
  refine en_putR (pc' := 52) (n := 7) (h2 := hh_353) dX2_init_49 fl_2_31 (by decide +kernel) (by decide) (by decide) rfl rfl ?_
  exact ex_vretV dX2_init_52 rfl rfl
set_option maxRecDepth 20000 in
theorem kc_84 (d : Nat) : zCv (d + 1) mX2_init [.inr (.inr (some 154))] hh_355 (fun h' => h' = hh_367) := by
  show zEx none (d + 1) mX2_init (0, [(0, .inr (.inr (some 154)))], [], hh_355) _
  refine ex_aload_n (pc' := 1) dX2_init_0 rfl rfl ?_
  refine ex_obj (pc' := 4) dX2_init_1 ml_2_3 (by decide) rfl ?_
  refine ex_aload_n (pc' := 5) dX2_init_4 rfl rfl ?_
  refine ex_iconst (v := 0) (pc' := 6) dX2_init_5 (by decide) rfl ?_
  refine en_putI (pc' := 9) (n := 7) (h2 := hh_356) dX2_init_6 fl_2_9 (by decide +kernel) (by decide) (by decide) rfl rfl ?_
  refine ex_aload_n (pc' := 10) dX2_init_9 rfl rfl ?_
  refine ex_iconst (v := 0) (pc' := 11) dX2_init_10 (by decide) rfl ?_
  refine en_putI (pc' := 14) (n := 7) (h2 := hh_357) dX2_init_11 fl_2_15 (by decide +kernel) (by decide) (by decide) rfl rfl ?_
  refine ex_aload_n (pc' := 15) dX2_init_14 rfl rfl ?_
  refine ex_iconst (v := 5) (pc' := 16) dX2_init_15 (by decide) rfl ?_
  refine en_narrI (pc' := 18) (a := 155) (nn := 5) (h2 := hh_358) dX2_init_16 (by decide +kernel) rfl rfl ?_
  refine en_putR (pc' := 21) (n := 7) (h2 := hh_359) dX2_init_18 fl_2_18 (by decide +kernel) (by decide) (by decide) rfl rfl ?_
  refine ex_aload_n (pc' := 22) dX2_init_21 rfl rfl ?_
  refine ex_iconst (v := 5) (pc' := 23) dX2_init_22 (by decide) rfl ?_
  refine en_narrI (pc' := 25) (a := 156) (nn := 5) (h2 := hh_360) dX2_init_23 (by decide +kernel) rfl rfl ?_
  refine en_putR (pc' := 28) (n := 7) (h2 := hh_361) dX2_init_25 fl_2_22 (by decide +kernel) (by decide) (by decide) rfl rfl ?_
  refine ex_aload_n (pc' := 29) dX2_init_28 rfl rfl ?_
  refine ex_bipush (v := 8) (pc' := 31) dX2_init_29 (by decide) rfl ?_
  refine en_narrI (pc' := 33) (a := 157) (nn := 8) (h2 := hh_362) dX2_init_31 (by decide +kernel) rfl rfl ?_
  refine en_putR (pc' := 36) (n := 7) (h2 := hh_363) dX2_init_33 fl_2_25 (by decide +kernel) (by decide) (by decide) rfl rfl ?_
  refine ex_aload_n (pc' := 37) dX2_init_36 rfl rfl ?_
  refine ex_bipush (v := 8) (pc' := 39) dX2_init_37 (by decide) rfl ?_
  refine en_narrI (pc' := 41) (a := 158) (nn := 8) (h2 := hh_364) dX2_init_39 (by decide +kernel) rfl rfl ?_
  refine en_putR (pc' := 44) (n := 7) (h2 := hh_365) dX2_init_41 fl_2_28 (by decide +kernel) (by decide) (by decide) rfl rfl ?_
  refine ex_aload_n (pc' := 45) dX2_init_44 rfl rfl ?_
  refine ex_bipush (v := 8) (pc' := 47) dX2_init_45 (by decide) rfl ?_
  refine en_narrI (pc' := 49) (a := 159) (nn := 8) (h2 := hh_366) dX2_init_47 (by decide +kernel) rfl rfl ?_
  refine en_putR (pc' := 52) (n := 7) (h2 := hh_367) dX2_init_49 fl_2_31 (by decide +kernel) (by decide) (by decide) rfl rfl ?_
  exact ex_vretV dX2_init_52 rfl rfl
set_option maxRecDepth 20000 in
theorem kc_85 (d : Nat) : zCv (d + 1) mX2_init [.inr (.inr (some 160))] hh_369 (fun h' => h' = hh_381) := by
  show zEx none (d + 1) mX2_init (0, [(0, .inr (.inr (some 160)))], [], hh_369) _
  refine ex_aload_n (pc' := 1) dX2_init_0 rfl rfl ?_
  refine ex_obj (pc' := 4) dX2_init_1 ml_2_3 (by decide) rfl ?_
  refine ex_aload_n (pc' := 5) dX2_init_4 rfl rfl ?_
  refine ex_iconst (v := 0) (pc' := 6) dX2_init_5 (by decide) rfl ?_
  refine en_putI (pc' := 9) (n := 7) (h2 := hh_370) dX2_init_6 fl_2_9 (by decide +kernel) (by decide) (by decide) rfl rfl ?_
  refine ex_aload_n (pc' := 10) dX2_init_9 rfl rfl ?_
  refine ex_iconst (v := 0) (pc' := 11) dX2_init_10 (by decide) rfl ?_
  refine en_putI (pc' := 14) (n := 7) (h2 := hh_371) dX2_init_11 fl_2_15 (by decide +kernel) (by decide) (by decide) rfl rfl ?_
  refine ex_aload_n (pc' := 15) dX2_init_14 rfl rfl ?_
  refine ex_iconst (v := 5) (pc' := 16) dX2_init_15 (by decide) rfl ?_
  refine en_narrI (pc' := 18) (a := 161) (nn := 5) (h2 := hh_372) dX2_init_16 (by decide +kernel) rfl rfl ?_
  refine en_putR (pc' := 21) (n := 7) (h2 := hh_373) dX2_init_18 fl_2_18 (by decide +kernel) (by decide) (by decide) rfl rfl ?_
  refine ex_aload_n (pc' := 22) dX2_init_21 rfl rfl ?_
  refine ex_iconst (v := 5) (pc' := 23) dX2_init_22 (by decide) rfl ?_
  refine en_narrI (pc' := 25) (a := 162) (nn := 5) (h2 := hh_374) dX2_init_23 (by decide +kernel) rfl rfl ?_
  refine en_putR (pc' := 28) (n := 7) (h2 := hh_375) dX2_init_25 fl_2_22 (by decide +kernel) (by decide) (by decide) rfl rfl ?_
  refine ex_aload_n (pc' := 29) dX2_init_28 rfl rfl ?_
  refine ex_bipush (v := 8) (pc' := 31) dX2_init_29 (by decide) rfl ?_
  refine en_narrI (pc' := 33) (a := 163) (nn := 8) (h2 := hh_376) dX2_init_31 (by decide +kernel) rfl rfl ?_
  refine en_putR (pc' := 36) (n := 7) (h2 := hh_377) dX2_init_33 fl_2_25 (by decide +kernel) (by decide) (by decide) rfl rfl ?_
  refine ex_aload_n (pc' := 37) dX2_init_36 rfl rfl ?_
  refine ex_bipush (v := 8) (pc' := 39) dX2_init_37 (by decide) rfl ?_
  refine en_narrI (pc' := 41) (a := 164) (nn := 8) (h2 := hh_378) dX2_init_39 (by decide +kernel) rfl rfl ?_
  refine en_putR (pc' := 44) (n := 7) (h2 := hh_379) dX2_init_41 fl_2_28 (by decide +kernel) (by decide) (by decide) rfl rfl ?_
  refine ex_aload_n (pc' := 45) dX2_init_44 rfl rfl ?_
  refine ex_bipush (v := 8) (pc' := 47) dX2_init_45 (by decide) rfl ?_
  refine en_narrI (pc' := 49) (a := 165) (nn := 8) (h2 := hh_380) dX2_init_47 (by decide +kernel) rfl rfl ?_
  refine en_putR (pc' := 52) (n := 7) (h2 := hh_381) dX2_init_49 fl_2_31 (by decide +kernel) (by decide) (by decide) rfl rfl ?_
  exact ex_vretV dX2_init_52 rfl rfl
set_option maxRecDepth 20000 in
theorem kc_86 (d : Nat) : zCv (d + 1) mX2_init [.inr (.inr (some 166))] hh_383 (fun h' => h' = hh_395) := by
  show zEx none (d + 1) mX2_init (0, [(0, .inr (.inr (some 166)))], [], hh_383) _
  refine ex_aload_n (pc' := 1) dX2_init_0 rfl rfl ?_
  refine ex_obj (pc' := 4) dX2_init_1 ml_2_3 (by decide) rfl ?_
  refine ex_aload_n (pc' := 5) dX2_init_4 rfl rfl ?_
  refine ex_iconst (v := 0) (pc' := 6) dX2_init_5 (by decide) rfl ?_
  refine en_putI (pc' := 9) (n := 7) (h2 := hh_384) dX2_init_6 fl_2_9 (by decide +kernel) (by decide) (by decide) rfl rfl ?_
  refine ex_aload_n (pc' := 10) dX2_init_9 rfl rfl ?_
  refine ex_iconst (v := 0) (pc' := 11) dX2_init_10 (by decide) rfl ?_
  refine en_putI (pc' := 14) (n := 7) (h2 := hh_385) dX2_init_11 fl_2_15 (by decide +kernel) (by decide) (by decide) rfl rfl ?_
  refine ex_aload_n (pc' := 15) dX2_init_14 rfl rfl ?_
  refine ex_iconst (v := 5) (pc' := 16) dX2_init_15 (by decide) rfl ?_
  refine en_narrI (pc' := 18) (a := 167) (nn := 5) (h2 := hh_386) dX2_init_16 (by decide +kernel) rfl rfl ?_
  refine en_putR (pc' := 21) (n := 7) (h2 := hh_387) dX2_init_18 fl_2_18 (by decide +kernel) (by decide) (by decide) rfl rfl ?_
  refine ex_aload_n (pc' := 22) dX2_init_21 rfl rfl ?_
  refine ex_iconst (v := 5) (pc' := 23) dX2_init_22 (by decide) rfl ?_
  refine en_narrI (pc' := 25) (a := 168) (nn := 5) (h2 := hh_388) dX2_init_23 (by decide +kernel) rfl rfl ?_
  refine en_putR (pc' := 28) (n := 7) (h2 := hh_389) dX2_init_25 fl_2_22 (by decide +kernel) (by decide) (by decide) rfl rfl ?_
  refine ex_aload_n (pc' := 29) dX2_init_28 rfl rfl ?_
  refine ex_bipush (v := 8) (pc' := 31) dX2_init_29 (by decide) rfl ?_
  refine en_narrI (pc' := 33) (a := 169) (nn := 8) (h2 := hh_390) dX2_init_31 (by decide +kernel) rfl rfl ?_
  refine en_putR (pc' := 36) (n := 7) (h2 := hh_391) dX2_init_33 fl_2_25 (by decide +kernel) (by decide) (by decide) rfl rfl ?_
  refine ex_aload_n (pc' := 37) dX2_init_36 rfl rfl ?_
  refine ex_bipush (v := 8) (pc' := 39) dX2_init_37 (by decide) rfl ?_
  refine en_narrI (pc' := 41) (a := 170) (nn := 8) (h2 := hh_392) dX2_init_39 (by decide +kernel) rfl rfl ?_
  refine en_putR (pc' := 44) (n := 7) (h2 := hh_393) dX2_init_41 fl_2_28 (by decide +kernel) (by decide) (by decide) rfl rfl ?_
  refine ex_aload_n (pc' := 45) dX2_init_44 rfl rfl ?_
  refine ex_bipush (v := 8) (pc' := 47) dX2_init_45 (by decide) rfl ?_
  refine en_narrI (pc' := 49) (a := 171) (nn := 8) (h2 := hh_394) dX2_init_47 (by decide +kernel) rfl rfl ?_
  refine en_putR (pc' := 52) (n := 7) (h2 := hh_395) dX2_init_49 fl_2_31 (by decide +kernel) (by decide) (by decide) rfl rfl ?_
  exact ex_vretV dX2_init_52 rfl rfl
set_option maxRecDepth 20000 in
theorem kc_87 (d : Nat) : zCv (d + 1) mX2_init [.inr (.inr (some 172))] hh_397 (fun h' => h' = hh_409) := by
  show zEx none (d + 1) mX2_init (0, [(0, .inr (.inr (some 172)))], [], hh_397) _
  refine ex_aload_n (pc' := 1) dX2_init_0 rfl rfl ?_
  refine ex_obj (pc' := 4) dX2_init_1 ml_2_3 (by decide) rfl ?_
  refine ex_aload_n (pc' := 5) dX2_init_4 rfl rfl ?_
  refine ex_iconst (v := 0) (pc' := 6) dX2_init_5 (by decide) rfl ?_
  refine en_putI (pc' := 9) (n := 7) (h2 := hh_398) dX2_init_6 fl_2_9 (by decide +kernel) (by decide) (by decide) rfl rfl ?_
  refine ex_aload_n (pc' := 10) dX2_init_9 rfl rfl ?_
  refine ex_iconst (v := 0) (pc' := 11) dX2_init_10 (by decide) rfl ?_
  refine en_putI (pc' := 14) (n := 7) (h2 := hh_399) dX2_init_11 fl_2_15 (by decide +kernel) (by decide) (by decide) rfl rfl ?_
  refine ex_aload_n (pc' := 15) dX2_init_14 rfl rfl ?_
  refine ex_iconst (v := 5) (pc' := 16) dX2_init_15 (by decide) rfl ?_
  refine en_narrI (pc' := 18) (a := 173) (nn := 5) (h2 := hh_400) dX2_init_16 (by decide +kernel) rfl rfl ?_
  refine en_putR (pc' := 21) (n := 7) (h2 := hh_401) dX2_init_18 fl_2_18 (by decide +kernel) (by decide) (by decide) rfl rfl ?_
  refine ex_aload_n (pc' := 22) dX2_init_21 rfl rfl ?_
  refine ex_iconst (v := 5) (pc' := 23) dX2_init_22 (by decide) rfl ?_
  refine en_narrI (pc' := 25) (a := 174) (nn := 5) (h2 := hh_402) dX2_init_23 (by decide +kernel) rfl rfl ?_
  refine en_putR (pc' := 28) (n := 7) (h2 := hh_403) dX2_init_25 fl_2_22 (by decide +kernel) (by decide) (by decide) rfl rfl ?_
  refine ex_aload_n (pc' := 29) dX2_init_28 rfl rfl ?_
  refine ex_bipush (v := 8) (pc' := 31) dX2_init_29 (by decide) rfl ?_
  refine en_narrI (pc' := 33) (a := 175) (nn := 8) (h2 := hh_404) dX2_init_31 (by decide +kernel) rfl rfl ?_
  refine en_putR (pc' := 36) (n := 7) (h2 := hh_405) dX2_init_33 fl_2_25 (by decide +kernel) (by decide) (by decide) rfl rfl ?_
  refine ex_aload_n (pc' := 37) dX2_init_36 rfl rfl ?_
  refine ex_bipush (v := 8) (pc' := 39) dX2_init_37 (by decide) rfl ?_
  refine en_narrI (pc' := 41) (a := 176) (nn := 8) (h2 := hh_406) dX2_init_39 (by decide +kernel) rfl rfl ?_
  refine en_putR (pc' := 44) (n := 7) (h2 := hh_407) dX2_init_41 fl_2_28 (by decide +kernel) (by decide) (by decide) rfl rfl ?_
  refine ex_aload_n (pc' := 45) dX2_init_44 rfl rfl ?_
  refine ex_bipush (v := 8) (pc' := 47) dX2_init_45 (by decide) rfl ?_
  refine en_narrI (pc' := 49) (a := 177) (nn := 8) (h2 := hh_408) dX2_init_47 (by decide +kernel) rfl rfl ?_
  refine en_putR (pc' := 52) (n := 7) (h2 := hh_409) dX2_init_49 fl_2_31 (by decide +kernel) (by decide) (by decide) rfl rfl ?_
  exact ex_vretV dX2_init_52 rfl rfl
set_option maxRecDepth 20000 in
theorem kc_88 (d : Nat) : zCv (d + 1) mX2_init [.inr (.inr (some 178))] hh_411 (fun h' => h' = hh_423) := by
  show zEx none (d + 1) mX2_init (0, [(0, .inr (.inr (some 178)))], [], hh_411) _
  refine ex_aload_n (pc' := 1) dX2_init_0 rfl rfl ?_
  refine ex_obj (pc' := 4) dX2_init_1 ml_2_3 (by decide) rfl ?_
  refine ex_aload_n (pc' := 5) dX2_init_4 rfl rfl ?_
  refine ex_iconst (v := 0) (pc' := 6) dX2_init_5 (by decide) rfl ?_
  refine en_putI (pc' := 9) (n := 7) (h2 := hh_412) dX2_init_6 fl_2_9 (by decide +kernel) (by decide) (by decide) rfl rfl ?_
  refine ex_aload_n (pc' := 10) dX2_init_9 rfl rfl ?_
  refine ex_iconst (v := 0) (pc' := 11) dX2_init_10 (by decide) rfl ?_
  refine en_putI (pc' := 14) (n := 7) (h2 := hh_413) dX2_init_11 fl_2_15 (by decide +kernel) (by decide) (by decide) rfl rfl ?_
  refine ex_aload_n (pc' := 15) dX2_init_14 rfl rfl ?_
  refine ex_iconst (v := 5) (pc' := 16) dX2_init_15 (by decide) rfl ?_
  refine en_narrI (pc' := 18) (a := 179) (nn := 5) (h2 := hh_414) dX2_init_16 (by decide +kernel) rfl rfl ?_
  refine en_putR (pc' := 21) (n := 7) (h2 := hh_415) dX2_init_18 fl_2_18 (by decide +kernel) (by decide) (by decide) rfl rfl ?_
  refine ex_aload_n (pc' := 22) dX2_init_21 rfl rfl ?_
  refine ex_iconst (v := 5) (pc' := 23) dX2_init_22 (by decide) rfl ?_
  refine en_narrI (pc' := 25) (a := 180) (nn := 5) (h2 := hh_416) dX2_init_23 (by decide +kernel) rfl rfl ?_
  refine en_putR (pc' := 28) (n := 7) (h2 := hh_417) dX2_init_25 fl_2_22 (by decide +kernel) (by decide) (by decide) rfl rfl ?_
  refine ex_aload_n (pc' := 29) dX2_init_28 rfl rfl ?_
  refine ex_bipush (v := 8) (pc' := 31) dX2_init_29 (by decide) rfl ?_
  refine en_narrI (pc' := 33) (a := 181) (nn := 8) (h2 := hh_418) dX2_init_31 (by decide +kernel) rfl rfl ?_
  refine en_putR (pc' := 36) (n := 7) (h2 := hh_419) dX2_init_33 fl_2_25 (by decide +kernel) (by decide) (by decide) rfl rfl ?_
  refine ex_aload_n (pc' := 37) dX2_init_36 rfl rfl ?_
  refine ex_bipush (v := 8) (pc' := 39) dX2_init_37 (by decide) rfl ?_
  refine en_narrI (pc' := 41) (a := 182) (nn := 8) (h2 := hh_420) dX2_init_39 (by decide +kernel) rfl rfl ?_
  refine en_putR (pc' := 44) (n := 7) (h2 := hh_421) dX2_init_41 fl_2_28 (by decide +kernel) (by decide) (by decide) rfl rfl ?_
  refine ex_aload_n (pc' := 45) dX2_init_44 rfl rfl ?_
  refine ex_bipush (v := 8) (pc' := 47) dX2_init_45 (by decide) rfl ?_
  refine en_narrI (pc' := 49) (a := 183) (nn := 8) (h2 := hh_422) dX2_init_47 (by decide +kernel) rfl rfl ?_
  refine en_putR (pc' := 52) (n := 7) (h2 := hh_423) dX2_init_49 fl_2_31 (by decide +kernel) (by decide) (by decide) rfl rfl ?_
  exact ex_vretV dX2_init_52 rfl rfl
set_option maxRecDepth 20000 in
theorem kc_89 (d : Nat) : zCv (d + 1) mX2_init [.inr (.inr (some 184))] hh_425 (fun h' => h' = hh_437) := by
  show zEx none (d + 1) mX2_init (0, [(0, .inr (.inr (some 184)))], [], hh_425) _
  refine ex_aload_n (pc' := 1) dX2_init_0 rfl rfl ?_
  refine ex_obj (pc' := 4) dX2_init_1 ml_2_3 (by decide) rfl ?_
  refine ex_aload_n (pc' := 5) dX2_init_4 rfl rfl ?_
  refine ex_iconst (v := 0) (pc' := 6) dX2_init_5 (by decide) rfl ?_
  refine en_putI (pc' := 9) (n := 7) (h2 := hh_426) dX2_init_6 fl_2_9 (by decide +kernel) (by decide) (by decide) rfl rfl ?_
  refine ex_aload_n (pc' := 10) dX2_init_9 rfl rfl ?_
  refine ex_iconst (v := 0) (pc' := 11) dX2_init_10 (by decide) rfl ?_
  refine en_putI (pc' := 14) (n := 7) (h2 := hh_427) dX2_init_11 fl_2_15 (by decide +kernel) (by decide) (by decide) rfl rfl ?_
  refine ex_aload_n (pc' := 15) dX2_init_14 rfl rfl ?_
  refine ex_iconst (v := 5) (pc' := 16) dX2_init_15 (by decide) rfl ?_
  refine en_narrI (pc' := 18) (a := 185) (nn := 5) (h2 := hh_428) dX2_init_16 (by decide +kernel) rfl rfl ?_
  refine en_putR (pc' := 21) (n := 7) (h2 := hh_429) dX2_init_18 fl_2_18 (by decide +kernel) (by decide) (by decide) rfl rfl ?_
  refine ex_aload_n (pc' := 22) dX2_init_21 rfl rfl ?_
  refine ex_iconst (v := 5) (pc' := 23) dX2_init_22 (by decide) rfl ?_
  refine en_narrI (pc' := 25) (a := 186) (nn := 5) (h2 := hh_430) dX2_init_23 (by decide +kernel) rfl rfl ?_
  refine en_putR (pc' := 28) (n := 7) (h2 := hh_431) dX2_init_25 fl_2_22 (by decide +kernel) (by decide) (by decide) rfl rfl ?_
  refine ex_aload_n (pc' := 29) dX2_init_28 rfl rfl ?_
  refine ex_bipush (v := 8) (pc' := 31) dX2_init_29 (by decide) rfl ?_
  refine en_narrI (pc' := 33) (a := 187) (nn := 8) (h2 := hh_432) dX2_init_31 (by decide +kernel) rfl rfl ?_
  refine en_putR (pc' := 36) (n := 7) (h2 := hh_433) dX2_init_33 fl_2_25 (by decide +kernel) (by decide) (by decide) rfl rfl ?_
  refine ex_aload_n (pc' := 37) dX2_init_36 rfl rfl ?_
  refine ex_bipush (v := 8) (pc' := 39) dX2_init_37 (by decide) rfl ?_
  refine en_narrI (pc' := 41) (a := 188) (nn := 8) (h2 := hh_434) dX2_init_39 (by decide +kernel) rfl rfl ?_
  refine en_putR (pc' := 44) (n := 7) (h2 := hh_435) dX2_init_41 fl_2_28 (by decide +kernel) (by decide) (by decide) rfl rfl ?_
  refine ex_aload_n (pc' := 45) dX2_init_44 rfl rfl ?_
  refine ex_bipush (v := 8) (pc' := 47) dX2_init_45 (by decide) rfl ?_
  refine en_narrI (pc' := 49) (a := 189) (nn := 8) (h2 := hh_436) dX2_init_47 (by decide +kernel) rfl rfl ?_
  refine en_putR (pc' := 52) (n := 7) (h2 := hh_437) dX2_init_49 fl_2_31 (by decide +kernel) (by decide) (by decide) rfl rfl ?_
  exact ex_vretV dX2_init_52 rfl rfl
set_option maxRecDepth 20000 in
theorem kc_90 (d : Nat) : zCv (d + 1) mX2_init [.inr (.inr (some 190))] hh_439 (fun h' => h' = hh_451) := by
  show zEx none (d + 1) mX2_init (0, [(0, .inr (.inr (some 190)))], [], hh_439) _
  refine ex_aload_n (pc' := 1) dX2_init_0 rfl rfl ?_
  refine ex_obj (pc' := 4) dX2_init_1 ml_2_3 (by decide) rfl ?_
  refine ex_aload_n (pc' := 5) dX2_init_4 rfl rfl ?_
  refine ex_iconst (v := 0) (pc' := 6) dX2_init_5 (by decide) rfl ?_
  refine en_putI (pc' := 9) (n := 7) (h2 := hh_440) dX2_init_6 fl_2_9 (by decide +kernel) (by decide) (by decide) rfl rfl ?_
  refine ex_aload_n (pc' := 10) dX2_init_9 rfl rfl ?_
  refine ex_iconst (v := 0) (pc' := 11) dX2_init_10 (by decide) rfl ?_
  refine en_putI (pc' := 14) (n := 7) (h2 := hh_441) dX2_init_11 fl_2_15 (by decide +kernel) (by decide) (by decide) rfl rfl ?_
  refine ex_aload_n (pc' := 15) dX2_init_14 rfl rfl ?_
  refine ex_iconst (v := 5) (pc' := 16) dX2_init_15 (by decide) rfl ?_
  refine en_narrI (pc' := 18) (a := 191) (nn := 5) (h2 := hh_442) dX2_init_16 (by decide +kernel) rfl rfl ?_
  refine en_putR (pc' := 21) (n := 7) (h2 := hh_443) dX2_init_18 fl_2_18 (by decide +kernel) (by decide) (by decide) rfl rfl ?_
  refine ex_aload_n (pc' := 22) dX2_init_21 rfl rfl ?_
  refine ex_iconst (v := 5) (pc' := 23) dX2_init_22 (by decide) rfl ?_
  refine en_narrI (pc' := 25) (a := 192) (nn := 5) (h2 := hh_444) dX2_init_23 (by decide +kernel) rfl rfl ?_
  refine en_putR (pc' := 28) (n := 7) (h2 := hh_445) dX2_init_25 fl_2_22 (by decide +kernel) (by decide) (by decide) rfl rfl ?_
  refine ex_aload_n (pc' := 29) dX2_init_28 rfl rfl ?_
  refine ex_bipush (v := 8) (pc' := 31) dX2_init_29 (by decide) rfl ?_
  refine en_narrI (pc' := 33) (a := 193) (nn := 8) (h2 := hh_446) dX2_init_31 (by decide +kernel) rfl rfl ?_
  refine en_putR (pc' := 36) (n := 7) (h2 := hh_447) dX2_init_33 fl_2_25 (by decide +kernel) (by decide) (by decide) rfl rfl ?_
  refine ex_aload_n (pc' := 37) dX2_init_36 rfl rfl ?_
  refine ex_bipush (v := 8) (pc' := 39) dX2_init_37 (by decide) rfl ?_
  refine en_narrI (pc' := 41) (a := 194) (nn := 8) (h2 := hh_448) dX2_init_39 (by decide +kernel) rfl rfl ?_
  refine en_putR (pc' := 44) (n := 7) (h2 := hh_449) dX2_init_41 fl_2_28 (by decide +kernel) (by decide) (by decide) rfl rfl ?_
  refine ex_aload_n (pc' := 45) dX2_init_44 rfl rfl ?_
  refine ex_bipush (v := 8) (pc' := 47) dX2_init_45 (by decide) rfl ?_
  refine en_narrI (pc' := 49) (a := 195) (nn := 8) (h2 := hh_450) dX2_init_47 (by decide +kernel) rfl rfl ?_
  refine en_putR (pc' := 52) (n := 7) (h2 := hh_451) dX2_init_49 fl_2_31 (by decide +kernel) (by decide) (by decide) rfl rfl ?_
  exact ex_vretV dX2_init_52 rfl rfl
set_option maxRecDepth 20000 in
theorem kc_1 (d : Nat) : zCv (d + 3) mX11_init [.inr (.inr (some 0))] hh_1 (fun h' => h' = hh_452) := by
  show zEx none (d + 3) mX11_init (0, [(0, .inr (.inr (some 0)))], [], hh_1) _
  refine ex_aload_n (pc' := 1) dX11_init_0 rfl rfl ?_
  refine ex_obj (pc' := 4) dX11_init_1 ml_11_1 (by decide) rfl ?_
  refine ex_aload_n (pc' := 5) dX11_init_4 rfl rfl ?_
  refine ex_sipush (v := 1000) (pc' := 8) dX11_init_5 (by decide) rfl ?_
  refine en_narrB (pc' := 10) (a := 1) (nn := 1000) (h2 := hh_2) dX11_init_8 (by decide +kernel) rfl rfl ?_
  refine en_putR (pc' := 13) (n := 16) (h2 := hh_3) dX11_init_10 fl_11_9 (by decide +kernel) (by decide) (by decide) rfl rfl ?_
  refine ex_aload_n (pc' := 14) dX11_init_13 rfl rfl ?_
  refine ex_iconst (v := 0) (pc' := 15) dX11_init_14 (by decide) rfl ?_
  refine en_putI (pc' := 18) (n := 16) (h2 := hh_4) dX11_init_15 fl_11_13 (by decide +kernel) (by decide) (by decide) rfl rfl ?_
  refine ex_aload_n (pc' := 19) dX11_init_18 rfl rfl ?_
  refine ex_iconst (v := 0) (pc' := 20) dX11_init_19 (by decide) rfl ?_
  refine en_putI (pc' := 23) (n := 16) (h2 := hh_5) dX11_init_20 fl_11_17 (by decide +kernel) (by decide) (by decide) rfl rfl ?_
  refine ex_aload_n (pc' := 24) dX11_init_23 rfl rfl ?_
  refine en_new (pc' := 27) (a := 2) (nf := 15) (h2 := hh_6) dX11_init_24 kl_11_20 (by decide +kernel) rfl rfl ?_
  refine ex_dup (pc' := 28) dX11_init_27 rfl rfl ?_
  refine en_calliV (pc' := 31) (a := 2) (n := 15) (h2 := hh_84) (vs := []) (rest := [.inr (.inr (some 2)), .inr (.inr (some 0))]) dX11_init_28 ml_11_22 (by decide) ⟨by decide, by decide⟩ rfl rfl (by decide +kernel) (by decide) (by decide) rfl (kc_2 _) ?_
  refine en_putR (pc' := 34) (n := 16) (h2 := hh_85) dX11_init_31 fl_11_23 (by decide +kernel) (by decide) (by decide) rfl rfl ?_
  refine ex_aload_n (pc' := 35) dX11_init_34 rfl rfl ?_
  refine en_new (pc' := 38) (a := 42) (nf := 15) (h2 := hh_86) dX11_init_35 kl_11_20 (by decide +kernel) rfl rfl ?_
  refine ex_dup (pc' := 39) dX11_init_38 rfl rfl ?_
  refine en_calliV (pc' := 42) (a := 42) (n := 15) (h2 := hh_164) (vs := []) (rest := [.inr (.inr (some 42)), .inr (.inr (some 0))]) dX11_init_39 ml_11_22 (by decide) ⟨by decide, by decide⟩ rfl rfl (by decide +kernel) (by decide) (by decide) rfl (kc_36 _) ?_
  refine en_putR (pc' := 45) (n := 16) (h2 := hh_165) dX11_init_42 fl_11_27 (by decide +kernel) (by decide) (by decide) rfl rfl ?_
  refine ex_aload_n (pc' := 46) dX11_init_45 rfl rfl ?_
  refine en_new (pc' := 49) (a := 82) (nf := 13) (h2 := hh_166) dX11_init_46 kl_11_30 (by decide +kernel) rfl rfl ?_
  refine ex_dup (pc' := 50) dX11_init_49 rfl rfl ?_
  refine ex_aload_n (pc' := 51) dX11_init_50 rfl rfl ?_
  refine ex_getR (pc' := 54) (n := 16) (r := 1) dX11_init_51 fl_11_9 (by decide +kernel) (by decide) (by decide +kernel) rfl ?_
  refine ex_aload_n (pc' := 55) dX11_init_54 rfl rfl ?_
  refine ex_getR (pc' := 58) (n := 16) (r := 42) dX11_init_55 fl_11_27 (by decide +kernel) (by decide) (by decide +kernel) rfl ?_
  refine en_calliV (pc' := 61) (a := 82) (n := 13) (h2 := hh_182) (vs := [.inr (.inr (some 1)), .inr (.inr (some 42))]) (rest := [.inr (.inr (some 82)), .inr (.inr (some 0))]) dX11_init_58 ml_11_32 (by decide) ⟨by decide, by decide⟩ rfl rfl (by decide +kernel) (by decide) (by decide) rfl (kc_70 _) ?_
  refine en_putR (pc' := 64) (n := 16) (h2 := hh_183) dX11_init_61 fl_11_35 (by decide +kernel) (by decide) (by decide) rfl rfl ?_
  refine ex_aload_n (pc' := 65) dX11_init_64 rfl rfl ?_
  refine en_new (pc' := 68) (a := 86) (nf := 7) (h2 := hh_184) dX11_init_65 kl_11_39 (by decide +kernel) rfl rfl ?_
  refine ex_dup (pc' := 69) dX11_init_68 rfl rfl ?_
  refine en_calliV (pc' := 72) (a := 86) (n := 7) (h2 := hh_196) (vs := []) (rest := [.inr (.inr (some 86)), .inr (.inr (some 0))]) dX11_init_69 ml_11_41 (by decide) ⟨by decide, by decide⟩ rfl rfl (by decide +kernel) (by decide) (by decide) rfl (kc_71 _) ?_
  refine en_putR (pc' := 75) (n := 16) (h2 := hh_197) dX11_init_72 fl_11_42 (by decide +kernel) (by decide) (by decide) rfl rfl ?_
  refine ex_aload_n (pc' := 76) dX11_init_75 rfl rfl ?_
  refine en_new (pc' := 79) (a := 92) (nf := 6) (h2 := hh_198) dX11_init_76 kl_11_46 (by decide +kernel) rfl rfl ?_
  refine ex_dup (pc' := 80) dX11_init_79 rfl rfl ?_
  refine ex_aload_n (pc' := 81) dX11_init_80 rfl rfl ?_
  refine ex_getR (pc' := 84) (n := 16) (r := 2) dX11_init_81 fl_11_23 (by decide +kernel) (by decide) (by decide +kernel) rfl ?_
  refine en_calliV (pc' := 87) (a := 92) (n := 6) (h2 := hh_205) (vs := [.inr (.inr (some 2))]) (rest := [.inr (.inr (some 92)), .inr (.inr (some 0))]) dX11_init_84 ml_11_48 (by decide) ⟨by decide, by decide⟩ rfl rfl (by decide +kernel) (by decide) (by decide) rfl (kc_72 _) ?_
  refine en_putR (pc' := 90) (n := 16) (h2 := hh_206) dX11_init_87 fl_11_51 (by decide +kernel) (by decide) (by decide) rfl rfl ?_
  refine ex_aload_n (pc' := 91) dX11_init_90 rfl rfl ?_
  refine en_new (pc' := 94) (a := 94) (nf := 7) (h2 := hh_207) dX11_init_91 kl_11_55 (by decide +kernel) rfl rfl ?_
  refine ex_dup (pc' := 95) dX11_init_94 rfl rfl ?_
  refine ex_aload_n (pc' := 96) dX11_init_95 rfl rfl ?_
  refine ex_getR (pc' := 99) (n := 16) (r := 2) dX11_init_96 fl_11_23 (by decide +kernel) (by decide) (by decide +kernel) rfl ?_
  refine ex_aload_n (pc' := 100) dX11_init_99 rfl rfl ?_
  refine ex_getR (pc' := 103) (n := 16) (r := 86) dX11_init_100 fl_11_42 (by decide +kernel) (by decide) (by decide +kernel) rfl ?_
  refine ex_aload_n (pc' := 104) dX11_init_103 rfl rfl ?_
  refine ex_getR (pc' := 107) (n := 16) (r := 92) dX11_init_104 fl_11_51 (by decide +kernel) (by decide) (by decide +kernel) rfl ?_
  refine en_calliV (pc' := 110) (a := 94) (n := 7) (h2 := hh_215) (vs := [.inr (.inr (some 2)), .inr (.inr (some 86)), .inr (.inr (some 92))]) (rest := [.inr (.inr (some 94)), .inr (.inr (some 0))]) dX11_init_107 ml_11_57 (by decide) ⟨by decide, by decide⟩ rfl rfl (by decide +kernel) (by decide) (by decide) rfl (kc_73 _) ?_
  refine en_putR (pc' := 113) (n := 16) (h2 := hh_216) dX11_init_110 fl_11_60 (by decide +kernel) (by decide) (by decide) rfl rfl ?_
  refine ex_aload_n (pc' := 114) dX11_init_113 rfl rfl ?_
  refine en_new (pc' := 117) (a := 96) (nf := 4) (h2 := hh_217) dX11_init_114 kl_11_64 (by decide +kernel) rfl rfl ?_
  refine ex_dup (pc' := 118) dX11_init_117 rfl rfl ?_
  refine ex_aload_n (pc' := 119) dX11_init_118 rfl rfl ?_
  refine ex_getR (pc' := 122) (n := 16) (r := 2) dX11_init_119 fl_11_23 (by decide +kernel) (by decide) (by decide +kernel) rfl ?_
  refine en_calliV (pc' := 125) (a := 96) (n := 4) (h2 := hh_224) (vs := [.inr (.inr (some 2))]) (rest := [.inr (.inr (some 96)), .inr (.inr (some 0))]) dX11_init_122 ml_11_66 (by decide) ⟨by decide, by decide⟩ rfl rfl (by decide +kernel) (by decide) (by decide) rfl (kc_74 _) ?_
  refine en_putR (pc' := 128) (n := 16) (h2 := hh_225) dX11_init_125 fl_11_67 (by decide +kernel) (by decide) (by decide) rfl rfl ?_
  refine ex_aload_n (pc' := 129) dX11_init_128 rfl rfl ?_
  refine en_new (pc' := 132) (a := 100) (nf := 5) (h2 := hh_226) dX11_init_129 kl_11_71 (by decide +kernel) rfl rfl ?_
  refine ex_dup (pc' := 133) dX11_init_132 rfl rfl ?_
  refine en_calliV (pc' := 136) (a := 100) (n := 5) (h2 := hh_234) (vs := []) (rest := [.inr (.inr (some 100)), .inr (.inr (some 0))]) dX11_init_133 ml_11_73 (by decide) ⟨by decide, by decide⟩ rfl rfl (by decide +kernel) (by decide) (by decide) rfl (kc_75 _) ?_
  refine en_putR (pc' := 139) (n := 16) (h2 := hh_235) dX11_init_136 fl_11_74 (by decide +kernel) (by decide) (by decide) rfl rfl ?_
  refine ex_aload_n (pc' := 140) dX11_init_139 rfl rfl ?_
  refine ex_bipush (v := 12) (pc' := 142) dX11_init_140 (by decide) rfl ?_
  refine en_anarr (pc' := 145) (a := 104) (nn := 12) (ak := 17) (h2 := hh_236) dX11_init_142 kl_11_39 (by decide +kernel) rfl rfl ?_
  refine en_putR (pc' := 148) (n := 16) (h2 := hh_237) dX11_init_145 fl_11_78 (by decide +kernel) (by decide) (by decide) rfl rfl ?_
  refine ex_aload_n (pc' := 149) dX11_init_148 rfl rfl ?_
  refine ex_iconst (v := 0) (pc' := 150) dX11_init_149 (by decide) rfl ?_
  refine en_putI (pc' := 153) (n := 16) (h2 := hh_238) dX11_init_150 fl_11_82 (by decide +kernel) (by decide) (by decide) rfl rfl ?_
  refine ex_aload_n (pc' := 154) dX11_init_153 rfl rfl ?_
  refine ex_iconst (v := 0) (pc' := 155) dX11_init_154 (by decide) rfl ?_
  refine en_putI (pc' := 158) (n := 16) (h2 := hh_239) dX11_init_155 fl_11_85 (by decide +kernel) (by decide) (by decide) rfl rfl ?_
  refine ex_aload_n (pc' := 159) dX11_init_158 rfl rfl ?_
  refine ex_iconst (v := 3) (pc' := 160) dX11_init_159 (by decide) rfl ?_
  refine en_anarr (pc' := 163) (a := 105) (nn := 3) (ak := 17) (h2 := hh_240) dX11_init_160 kl_11_39 (by decide +kernel) rfl rfl ?_
  refine en_putR (pc' := 166) (n := 16) (h2 := hh_241) dX11_init_163 fl_11_88 (by decide +kernel) (by decide) (by decide) rfl rfl ?_
  refine ex_aload_n (pc' := 167) dX11_init_166 rfl rfl ?_
  refine ex_iconst (v := 0) (pc' := 168) dX11_init_167 (by decide) rfl ?_
  refine en_putI (pc' := 171) (n := 16) (h2 := hh_242) dX11_init_168 fl_11_91 (by decide +kernel) (by decide) (by decide) rfl rfl ?_
  refine ex_iconst (v := 0) (pc' := 172) dX11_init_171 (by decide) rfl ?_
  refine ex_istore_n (pc' := 173) (ls' := [(1, .inl 0), (0, .inr (.inr (some 0)))]) dX11_init_172 (by decide) rfl rfl ?_
  refine ex_iload_n (pc' := 174) dX11_init_173 rfl rfl ?_
  refine ex_bipush (v := 12) (pc' := 176) dX11_init_174 (by decide) rfl ?_
  refine ex_icmp_f (pc' := 179) dX11_init_176 (by decide) (by decide) rfl ?_
  refine ex_aload_n (pc' := 180) dX11_init_179 rfl rfl ?_
  refine ex_getR (pc' := 183) (n := 16) (r := 104) dX11_init_180 fl_11_78 (by decide +kernel) (by decide) (by decide +kernel) rfl ?_
  refine ex_iload_n (pc' := 184) dX11_init_183 rfl rfl ?_
  refine en_new (pc' := 187) (a := 106) (nf := 7) (h2 := hh_243) dX11_init_184 kl_11_39 (by decide +kernel) rfl rfl ?_
  refine ex_dup (pc' := 188) dX11_init_187 rfl rfl ?_
  refine en_calliV (pc' := 191) (a := 106) (n := 7) (h2 := hh_255) (vs := []) (rest := [.inr (.inr (some 106)), .inl 0, .inr (.inr (some 104))]) dX11_init_188 ml_11_41 (by decide) ⟨by decide, by decide⟩ rfl rfl (by decide +kernel) (by decide) (by decide) rfl (kc_76 _) ?_
  refine en_aast (pc' := 192) (kd := 17) (n := 12) (nv := 7) (jj := 0) (h2 := hh_256) dX11_init_191 (by decide +kernel) (by decide +kernel) (by decide) (by decide) rfl rfl ?_
  refine ex_iinc (pc' := 195) (v := 1) (ls' := [(1, .inl 1), (0, .inr (.inr (some 0)))]) dX11_init_192 rfl (by decide) (by decide) rfl rfl ?_
  refine ex_goto (pc' := 173) dX11_init_195 (by decide) ?_
  refine ex_iload_n (pc' := 174) dX11_init_173 rfl rfl ?_
  refine ex_bipush (v := 12) (pc' := 176) dX11_init_174 (by decide) rfl ?_
  refine ex_icmp_f (pc' := 179) dX11_init_176 (by decide) (by decide) rfl ?_
  refine ex_aload_n (pc' := 180) dX11_init_179 rfl rfl ?_
  refine ex_getR (pc' := 183) (n := 16) (r := 104) dX11_init_180 fl_11_78 (by decide +kernel) (by decide) (by decide +kernel) rfl ?_
  refine ex_iload_n (pc' := 184) dX11_init_183 rfl rfl ?_
  refine en_new (pc' := 187) (a := 112) (nf := 7) (h2 := hh_257) dX11_init_184 kl_11_39 (by decide +kernel) rfl rfl ?_
  refine ex_dup (pc' := 188) dX11_init_187 rfl rfl ?_
  refine en_calliV (pc' := 191) (a := 112) (n := 7) (h2 := hh_269) (vs := []) (rest := [.inr (.inr (some 112)), .inl 1, .inr (.inr (some 104))]) dX11_init_188 ml_11_41 (by decide) ⟨by decide, by decide⟩ rfl rfl (by decide +kernel) (by decide) (by decide) rfl (kc_77 _) ?_
  refine en_aast (pc' := 192) (kd := 17) (n := 12) (nv := 7) (jj := 1) (h2 := hh_270) dX11_init_191 (by decide +kernel) (by decide +kernel) (by decide) (by decide) rfl rfl ?_
  refine ex_iinc (pc' := 195) (v := 2) (ls' := [(1, .inl 2), (0, .inr (.inr (some 0)))]) dX11_init_192 rfl (by decide) (by decide) rfl rfl ?_
  refine ex_goto (pc' := 173) dX11_init_195 (by decide) ?_
  refine ex_iload_n (pc' := 174) dX11_init_173 rfl rfl ?_
  refine ex_bipush (v := 12) (pc' := 176) dX11_init_174 (by decide) rfl ?_
  refine ex_icmp_f (pc' := 179) dX11_init_176 (by decide) (by decide) rfl ?_
  refine ex_aload_n (pc' := 180) dX11_init_179 rfl rfl ?_
  refine ex_getR (pc' := 183) (n := 16) (r := 104) dX11_init_180 fl_11_78 (by decide +kernel) (by decide) (by decide +kernel) rfl ?_
  refine ex_iload_n (pc' := 184) dX11_init_183 rfl rfl ?_
  refine en_new (pc' := 187) (a := 118) (nf := 7) (h2 := hh_271) dX11_init_184 kl_11_39 (by decide +kernel) rfl rfl ?_
  refine ex_dup (pc' := 188) dX11_init_187 rfl rfl ?_
  refine en_calliV (pc' := 191) (a := 118) (n := 7) (h2 := hh_283) (vs := []) (rest := [.inr (.inr (some 118)), .inl 2, .inr (.inr (some 104))]) dX11_init_188 ml_11_41 (by decide) ⟨by decide, by decide⟩ rfl rfl (by decide +kernel) (by decide) (by decide) rfl (kc_78 _) ?_
  refine en_aast (pc' := 192) (kd := 17) (n := 12) (nv := 7) (jj := 2) (h2 := hh_284) dX11_init_191 (by decide +kernel) (by decide +kernel) (by decide) (by decide) rfl rfl ?_
  refine ex_iinc (pc' := 195) (v := 3) (ls' := [(1, .inl 3), (0, .inr (.inr (some 0)))]) dX11_init_192 rfl (by decide) (by decide) rfl rfl ?_
  refine ex_goto (pc' := 173) dX11_init_195 (by decide) ?_
  refine ex_iload_n (pc' := 174) dX11_init_173 rfl rfl ?_
  refine ex_bipush (v := 12) (pc' := 176) dX11_init_174 (by decide) rfl ?_
  refine ex_icmp_f (pc' := 179) dX11_init_176 (by decide) (by decide) rfl ?_
  refine ex_aload_n (pc' := 180) dX11_init_179 rfl rfl ?_
  refine ex_getR (pc' := 183) (n := 16) (r := 104) dX11_init_180 fl_11_78 (by decide +kernel) (by decide) (by decide +kernel) rfl ?_
  refine ex_iload_n (pc' := 184) dX11_init_183 rfl rfl ?_
  refine en_new (pc' := 187) (a := 124) (nf := 7) (h2 := hh_285) dX11_init_184 kl_11_39 (by decide +kernel) rfl rfl ?_
  refine ex_dup (pc' := 188) dX11_init_187 rfl rfl ?_
  refine en_calliV (pc' := 191) (a := 124) (n := 7) (h2 := hh_297) (vs := []) (rest := [.inr (.inr (some 124)), .inl 3, .inr (.inr (some 104))]) dX11_init_188 ml_11_41 (by decide) ⟨by decide, by decide⟩ rfl rfl (by decide +kernel) (by decide) (by decide) rfl (kc_79 _) ?_
  refine en_aast (pc' := 192) (kd := 17) (n := 12) (nv := 7) (jj := 3) (h2 := hh_298) dX11_init_191 (by decide +kernel) (by decide +kernel) (by decide) (by decide) rfl rfl ?_
  refine ex_iinc (pc' := 195) (v := 4) (ls' := [(1, .inl 4), (0, .inr (.inr (some 0)))]) dX11_init_192 rfl (by decide) (by decide) rfl rfl ?_
  refine ex_goto (pc' := 173) dX11_init_195 (by decide) ?_
  refine ex_iload_n (pc' := 174) dX11_init_173 rfl rfl ?_
  refine ex_bipush (v := 12) (pc' := 176) dX11_init_174 (by decide) rfl ?_
  refine ex_icmp_f (pc' := 179) dX11_init_176 (by decide) (by decide) rfl ?_
  refine ex_aload_n (pc' := 180) dX11_init_179 rfl rfl ?_
  refine ex_getR (pc' := 183) (n := 16) (r := 104) dX11_init_180 fl_11_78 (by decide +kernel) (by decide) (by decide +kernel) rfl ?_
  refine ex_iload_n (pc' := 184) dX11_init_183 rfl rfl ?_
  refine en_new (pc' := 187) (a := 130) (nf := 7) (h2 := hh_299) dX11_init_184 kl_11_39 (by decide +kernel) rfl rfl ?_
  refine ex_dup (pc' := 188) dX11_init_187 rfl rfl ?_
  refine en_calliV (pc' := 191) (a := 130) (n := 7) (h2 := hh_311) (vs := []) (rest := [.inr (.inr (some 130)), .inl 4, .inr (.inr (some 104))]) dX11_init_188 ml_11_41 (by decide) ⟨by decide, by decide⟩ rfl rfl (by decide +kernel) (by decide) (by decide) rfl (kc_80 _) ?_
  refine en_aast (pc' := 192) (kd := 17) (n := 12) (nv := 7) (jj := 4) (h2 := hh_312) dX11_init_191 (by decide +kernel) (by decide +kernel) (by decide) (by decide) rfl rfl ?_
  refine ex_iinc (pc' := 195) (v := 5) (ls' := [(1, .inl 5), (0, .inr (.inr (some 0)))]) dX11_init_192 rfl (by decide) (by decide) rfl rfl ?_
  refine ex_goto (pc' := 173) dX11_init_195 (by decide) ?_
  refine ex_iload_n (pc' := 174) dX11_init_173 rfl rfl ?_
  refine ex_bipush (v := 12) (pc' := 176) dX11_init_174 (by decide) rfl ?_
  refine ex_icmp_f (pc' := 179) dX11_init_176 (by decide) (by decide) rfl ?_
  refine ex_aload_n (pc' := 180) dX11_init_179 rfl rfl ?_
  refine ex_getR (pc' := 183) (n := 16) (r := 104) dX11_init_180 fl_11_78 (by decide +kernel) (by decide) (by decide +kernel) rfl ?_
  refine ex_iload_n (pc' := 184) dX11_init_183 rfl rfl ?_
  refine en_new (pc' := 187) (a := 136) (nf := 7) (h2 := hh_313) dX11_init_184 kl_11_39 (by decide +kernel) rfl rfl ?_
  refine ex_dup (pc' := 188) dX11_init_187 rfl rfl ?_
  refine en_calliV (pc' := 191) (a := 136) (n := 7) (h2 := hh_325) (vs := []) (rest := [.inr (.inr (some 136)), .inl 5, .inr (.inr (some 104))]) dX11_init_188 ml_11_41 (by decide) ⟨by decide, by decide⟩ rfl rfl (by decide +kernel) (by decide) (by decide) rfl (kc_81 _) ?_
  refine en_aast (pc' := 192) (kd := 17) (n := 12) (nv := 7) (jj := 5) (h2 := hh_326) dX11_init_191 (by decide +kernel) (by decide +kernel) (by decide) (by decide) rfl rfl ?_
  refine ex_iinc (pc' := 195) (v := 6) (ls' := [(1, .inl 6), (0, .inr (.inr (some 0)))]) dX11_init_192 rfl (by decide) (by decide) rfl rfl ?_
  refine ex_goto (pc' := 173) dX11_init_195 (by decide) ?_
  refine ex_iload_n (pc' := 174) dX11_init_173 rfl rfl ?_
  refine ex_bipush (v := 12) (pc' := 176) dX11_init_174 (by decide) rfl ?_
  refine ex_icmp_f (pc' := 179) dX11_init_176 (by decide) (by decide) rfl ?_
  refine ex_aload_n (pc' := 180) dX11_init_179 rfl rfl ?_
  refine ex_getR (pc' := 183) (n := 16) (r := 104) dX11_init_180 fl_11_78 (by decide +kernel) (by decide) (by decide +kernel) rfl ?_
  refine ex_iload_n (pc' := 184) dX11_init_183 rfl rfl ?_
  refine en_new (pc' := 187) (a := 142) (nf := 7) (h2 := hh_327) dX11_init_184 kl_11_39 (by decide +kernel) rfl rfl ?_
  refine ex_dup (pc' := 188) dX11_init_187 rfl rfl ?_
  refine en_calliV (pc' := 191) (a := 142) (n := 7) (h2 := hh_339) (vs := []) (rest := [.inr (.inr (some 142)), .inl 6, .inr (.inr (some 104))]) dX11_init_188 ml_11_41 (by decide) ⟨by decide, by decide⟩ rfl rfl (by decide +kernel) (by decide) (by decide) rfl (kc_82 _) ?_
  refine en_aast (pc' := 192) (kd := 17) (n := 12) (nv := 7) (jj := 6) (h2 := hh_340) dX11_init_191 (by decide +kernel) (by decide +kernel) (by decide) (by decide) rfl rfl ?_
  refine ex_iinc (pc' := 195) (v := 7) (ls' := [(1, .inl 7), (0, .inr (.inr (some 0)))]) dX11_init_192 rfl (by decide) (by decide) rfl rfl ?_
  refine ex_goto (pc' := 173) dX11_init_195 (by decide) ?_
  refine ex_iload_n (pc' := 174) dX11_init_173 rfl rfl ?_
  refine ex_bipush (v := 12) (pc' := 176) dX11_init_174 (by decide) rfl ?_
  refine ex_icmp_f (pc' := 179) dX11_init_176 (by decide) (by decide) rfl ?_
  refine ex_aload_n (pc' := 180) dX11_init_179 rfl rfl ?_
  refine ex_getR (pc' := 183) (n := 16) (r := 104) dX11_init_180 fl_11_78 (by decide +kernel) (by decide) (by decide +kernel) rfl ?_
  refine ex_iload_n (pc' := 184) dX11_init_183 rfl rfl ?_
  refine en_new (pc' := 187) (a := 148) (nf := 7) (h2 := hh_341) dX11_init_184 kl_11_39 (by decide +kernel) rfl rfl ?_
  refine ex_dup (pc' := 188) dX11_init_187 rfl rfl ?_
  refine en_calliV (pc' := 191) (a := 148) (n := 7) (h2 := hh_353) (vs := []) (rest := [.inr (.inr (some 148)), .inl 7, .inr (.inr (some 104))]) dX11_init_188 ml_11_41 (by decide) ⟨by decide, by decide⟩ rfl rfl (by decide +kernel) (by decide) (by decide) rfl (kc_83 _) ?_
  refine en_aast (pc' := 192) (kd := 17) (n := 12) (nv := 7) (jj := 7) (h2 := hh_354) dX11_init_191 (by decide +kernel) (by decide +kernel) (by decide) (by decide) rfl rfl ?_
  refine ex_iinc (pc' := 195) (v := 8) (ls' := [(1, .inl 8), (0, .inr (.inr (some 0)))]) dX11_init_192 rfl (by decide) (by decide) rfl rfl ?_
  refine ex_goto (pc' := 173) dX11_init_195 (by decide) ?_
  refine ex_iload_n (pc' := 174) dX11_init_173 rfl rfl ?_
  refine ex_bipush (v := 12) (pc' := 176) dX11_init_174 (by decide) rfl ?_
  refine ex_icmp_f (pc' := 179) dX11_init_176 (by decide) (by decide) rfl ?_
  refine ex_aload_n (pc' := 180) dX11_init_179 rfl rfl ?_
  refine ex_getR (pc' := 183) (n := 16) (r := 104) dX11_init_180 fl_11_78 (by decide +kernel) (by decide) (by decide +kernel) rfl ?_
  refine ex_iload_n (pc' := 184) dX11_init_183 rfl rfl ?_
  refine en_new (pc' := 187) (a := 154) (nf := 7) (h2 := hh_355) dX11_init_184 kl_11_39 (by decide +kernel) rfl rfl ?_
  refine ex_dup (pc' := 188) dX11_init_187 rfl rfl ?_
  refine en_calliV (pc' := 191) (a := 154) (n := 7) (h2 := hh_367) (vs := []) (rest := [.inr (.inr (some 154)), .inl 8, .inr (.inr (some 104))]) dX11_init_188 ml_11_41 (by decide) ⟨by decide, by decide⟩ rfl rfl (by decide +kernel) (by decide) (by decide) rfl (kc_84 _) ?_
  refine en_aast (pc' := 192) (kd := 17) (n := 12) (nv := 7) (jj := 8) (h2 := hh_368) dX11_init_191 (by decide +kernel) (by decide +kernel) (by decide) (by decide) rfl rfl ?_
  refine ex_iinc (pc' := 195) (v := 9) (ls' := [(1, .inl 9), (0, .inr (.inr (some 0)))]) dX11_init_192 rfl (by decide) (by decide) rfl rfl ?_
  refine ex_goto (pc' := 173) dX11_init_195 (by decide) ?_
  refine ex_iload_n (pc' := 174) dX11_init_173 rfl rfl ?_
  refine ex_bipush (v := 12) (pc' := 176) dX11_init_174 (by decide) rfl ?_
  refine ex_icmp_f (pc' := 179) dX11_init_176 (by decide) (by decide) rfl ?_
  refine ex_aload_n (pc' := 180) dX11_init_179 rfl rfl ?_
  refine ex_getR (pc' := 183) (n := 16) (r := 104) dX11_init_180 fl_11_78 (by decide +kernel) (by decide) (by decide +kernel) rfl ?_
  refine ex_iload_n (pc' := 184) dX11_init_183 rfl rfl ?_
  refine en_new (pc' := 187) (a := 160) (nf := 7) (h2 := hh_369) dX11_init_184 kl_11_39 (by decide +kernel) rfl rfl ?_
  refine ex_dup (pc' := 188) dX11_init_187 rfl rfl ?_
  refine en_calliV (pc' := 191) (a := 160) (n := 7) (h2 := hh_381) (vs := []) (rest := [.inr (.inr (some 160)), .inl 9, .inr (.inr (some 104))]) dX11_init_188 ml_11_41 (by decide) ⟨by decide, by decide⟩ rfl rfl (by decide +kernel) (by decide) (by decide) rfl (kc_85 _) ?_
  refine en_aast (pc' := 192) (kd := 17) (n := 12) (nv := 7) (jj := 9) (h2 := hh_382) dX11_init_191 (by decide +kernel) (by decide +kernel) (by decide) (by decide) rfl rfl ?_
  refine ex_iinc (pc' := 195) (v := 10) (ls' := [(1, .inl 10), (0, .inr (.inr (some 0)))]) dX11_init_192 rfl (by decide) (by decide) rfl rfl ?_
  refine ex_goto (pc' := 173) dX11_init_195 (by decide) ?_
  refine ex_iload_n (pc' := 174) dX11_init_173 rfl rfl ?_
  refine ex_bipush (v := 12) (pc' := 176) dX11_init_174 (by decide) rfl ?_
  refine ex_icmp_f (pc' := 179) dX11_init_176 (by decide) (by decide) rfl ?_
  refine ex_aload_n (pc' := 180) dX11_init_179 rfl rfl ?_
  refine ex_getR (pc' := 183) (n := 16) (r := 104) dX11_init_180 fl_11_78 (by decide +kernel) (by decide) (by decide +kernel) rfl ?_
  refine ex_iload_n (pc' := 184) dX11_init_183 rfl rfl ?_
  refine en_new (pc' := 187) (a := 166) (nf := 7) (h2 := hh_383) dX11_init_184 kl_11_39 (by decide +kernel) rfl rfl ?_
  refine ex_dup (pc' := 188) dX11_init_187 rfl rfl ?_
  refine en_calliV (pc' := 191) (a := 166) (n := 7) (h2 := hh_395) (vs := []) (rest := [.inr (.inr (some 166)), .inl 10, .inr (.inr (some 104))]) dX11_init_188 ml_11_41 (by decide) ⟨by decide, by decide⟩ rfl rfl (by decide +kernel) (by decide) (by decide) rfl (kc_86 _) ?_
  refine en_aast (pc' := 192) (kd := 17) (n := 12) (nv := 7) (jj := 10) (h2 := hh_396) dX11_init_191 (by decide +kernel) (by decide +kernel) (by decide) (by decide) rfl rfl ?_
  refine ex_iinc (pc' := 195) (v := 11) (ls' := [(1, .inl 11), (0, .inr (.inr (some 0)))]) dX11_init_192 rfl (by decide) (by decide) rfl rfl ?_
  refine ex_goto (pc' := 173) dX11_init_195 (by decide) ?_
  refine ex_iload_n (pc' := 174) dX11_init_173 rfl rfl ?_
  refine ex_bipush (v := 12) (pc' := 176) dX11_init_174 (by decide) rfl ?_
  refine ex_icmp_f (pc' := 179) dX11_init_176 (by decide) (by decide) rfl ?_
  refine ex_aload_n (pc' := 180) dX11_init_179 rfl rfl ?_
  refine ex_getR (pc' := 183) (n := 16) (r := 104) dX11_init_180 fl_11_78 (by decide +kernel) (by decide) (by decide +kernel) rfl ?_
  refine ex_iload_n (pc' := 184) dX11_init_183 rfl rfl ?_
  refine en_new (pc' := 187) (a := 172) (nf := 7) (h2 := hh_397) dX11_init_184 kl_11_39 (by decide +kernel) rfl rfl ?_
  refine ex_dup (pc' := 188) dX11_init_187 rfl rfl ?_
  refine en_calliV (pc' := 191) (a := 172) (n := 7) (h2 := hh_409) (vs := []) (rest := [.inr (.inr (some 172)), .inl 11, .inr (.inr (some 104))]) dX11_init_188 ml_11_41 (by decide) ⟨by decide, by decide⟩ rfl rfl (by decide +kernel) (by decide) (by decide) rfl (kc_87 _) ?_
  refine en_aast (pc' := 192) (kd := 17) (n := 12) (nv := 7) (jj := 11) (h2 := hh_410) dX11_init_191 (by decide +kernel) (by decide +kernel) (by decide) (by decide) rfl rfl ?_
  refine ex_iinc (pc' := 195) (v := 12) (ls' := [(1, .inl 12), (0, .inr (.inr (some 0)))]) dX11_init_192 rfl (by decide) (by decide) rfl rfl ?_
  refine ex_goto (pc' := 173) dX11_init_195 (by decide) ?_
  refine ex_iload_n (pc' := 174) dX11_init_173 rfl rfl ?_
  refine ex_bipush (v := 12) (pc' := 176) dX11_init_174 (by decide) rfl ?_
  refine ex_icmp_t (pc' := 198) dX11_init_176 (by decide) (by decide) ?_
  refine ex_iconst (v := 0) (pc' := 199) dX11_init_198 (by decide) rfl ?_
  refine ex_istore_n (pc' := 200) (ls' := [(1, .inl 0), (0, .inr (.inr (some 0)))]) dX11_init_199 (by decide) rfl rfl ?_
  refine ex_iload_n (pc' := 201) dX11_init_200 rfl rfl ?_
  refine ex_iconst (v := 3) (pc' := 202) dX11_init_201 (by decide) rfl ?_
  refine ex_icmp_f (pc' := 205) dX11_init_202 (by decide) (by decide) rfl ?_
  refine ex_aload_n (pc' := 206) dX11_init_205 rfl rfl ?_
  refine ex_getR (pc' := 209) (n := 16) (r := 105) dX11_init_206 fl_11_88 (by decide +kernel) (by decide) (by decide +kernel) rfl ?_
  refine ex_iload_n (pc' := 210) dX11_init_209 rfl rfl ?_
  refine en_new (pc' := 213) (a := 178) (nf := 7) (h2 := hh_411) dX11_init_210 kl_11_39 (by decide +kernel) rfl rfl ?_
  refine ex_dup (pc' := 214) dX11_init_213 rfl rfl ?_
  refine en_calliV (pc' := 217) (a := 178) (n := 7) (h2 := hh_423) (vs := []) (rest := [.inr (.inr (some 178)), .inl 0, .inr (.inr (some 105))]) dX11_init_214 ml_11_41 (by decide) ⟨by decide, by decide⟩ rfl rfl (by decide +kernel) (by decide) (by decide) rfl (kc_88 _) ?_
  refine en_aast (pc' := 218) (kd := 17) (n := 3) (nv := 7) (jj := 0) (h2 := hh_424) dX11_init_217 (by decide +kernel) (by decide +kernel) (by decide) (by decide) rfl rfl ?_
  refine ex_iinc (pc' := 221) (v := 1) (ls' := [(1, .inl 1), (0, .inr (.inr (some 0)))]) dX11_init_218 rfl (by decide) (by decide) rfl rfl ?_
  refine ex_goto (pc' := 200) dX11_init_221 (by decide) ?_
  refine ex_iload_n (pc' := 201) dX11_init_200 rfl rfl ?_
  refine ex_iconst (v := 3) (pc' := 202) dX11_init_201 (by decide) rfl ?_
  refine ex_icmp_f (pc' := 205) dX11_init_202 (by decide) (by decide) rfl ?_
  refine ex_aload_n (pc' := 206) dX11_init_205 rfl rfl ?_
  refine ex_getR (pc' := 209) (n := 16) (r := 105) dX11_init_206 fl_11_88 (by decide +kernel) (by decide) (by decide +kernel) rfl ?_
  refine ex_iload_n (pc' := 210) dX11_init_209 rfl rfl ?_
  refine en_new (pc' := 213) (a := 184) (nf := 7) (h2 := hh_425) dX11_init_210 kl_11_39 (by decide +kernel) rfl rfl ?_
  refine ex_dup (pc' := 214) dX11_init_213 rfl rfl ?_
  refine en_calliV (pc' := 217) (a := 184) (n := 7) (h2 := hh_437) (vs := []) (rest := [.inr (.inr (some 184)), .inl 1, .inr (.inr (some 105))]) dX11_init_214 ml_11_41 (by decide) ⟨by decide, by decide⟩ rfl rfl (by decide +kernel) (by decide) (by decide) rfl (kc_89 _) ?_
  refine en_aast (pc' := 218) (kd := 17) (n := 3) (nv := 7) (jj := 1) (h2 := hh_438) dX11_init_217 (by decide +kernel) (by decide +kernel) (by decide) (by decide) rfl rfl ?_
  refine ex_iinc (pc' := 221) (v := 2) (ls' := [(1, .inl 2), (0, .inr (.inr (some 0)))]) dX11_init_218 rfl (by decide) (by decide) rfl rfl ?_
  refine ex_goto (pc' := 200) dX11_init_221 (by decide) ?_
  refine ex_iload_n (pc' := 201) dX11_init_200 rfl rfl ?_
  refine ex_iconst (v := 3) (pc' := 202) dX11_init_201 (by decide) rfl ?_
  refine ex_icmp_f (pc' := 205) dX11_init_202 (by decide) (by decide) rfl ?_
  refine ex_aload_n (pc' := 206) dX11_init_205 rfl rfl ?_
  refine ex_getR (pc' := 209) (n := 16) (r := 105) dX11_init_206 fl_11_88 (by decide +kernel) (by decide) (by decide +kernel) rfl ?_
  refine ex_iload_n (pc' := 210) dX11_init_209 rfl rfl ?_
  refine en_new (pc' := 213) (a := 190) (nf := 7) (h2 := hh_439) dX11_init_210 kl_11_39 (by decide +kernel) rfl rfl ?_
  refine ex_dup (pc' := 214) dX11_init_213 rfl rfl ?_
  refine en_calliV (pc' := 217) (a := 190) (n := 7) (h2 := hh_451) (vs := []) (rest := [.inr (.inr (some 190)), .inl 2, .inr (.inr (some 105))]) dX11_init_214 ml_11_41 (by decide) ⟨by decide, by decide⟩ rfl rfl (by decide +kernel) (by decide) (by decide) rfl (kc_90 _) ?_
  refine en_aast (pc' := 218) (kd := 17) (n := 3) (nv := 7) (jj := 2) (h2 := hh_452) dX11_init_217 (by decide +kernel) (by decide +kernel) (by decide) (by decide) rfl rfl ?_
  refine ex_iinc (pc' := 221) (v := 3) (ls' := [(1, .inl 3), (0, .inr (.inr (some 0)))]) dX11_init_218 rfl (by decide) (by decide) rfl rfl ?_
  refine ex_goto (pc' := 200) dX11_init_221 (by decide) ?_
  refine ex_iload_n (pc' := 201) dX11_init_200 rfl rfl ?_
  refine ex_iconst (v := 3) (pc' := 202) dX11_init_201 (by decide) rfl ?_
  refine ex_icmp_t (pc' := 224) dX11_init_202 (by decide) (by decide) ?_
  exact ex_vretV dX11_init_224 rfl rfl
set_option maxRecDepth 20000 in
theorem kc_91 (d : Nat) : zCv (d + 1) mX12_init [.inr (.inr (some 196))] hh_453 (fun h' => h' = hh_486) := by
  show zEx none (d + 1) mX12_init (0, [(0, .inr (.inr (some 196)))], [], hh_453) _
  refine ex_aload_n (pc' := 1) dX12_init_0 rfl rfl ?_
  refine ex_obj (pc' := 4) dX12_init_1 ml_12_1 (by decide) rfl ?_
  refine ex_aload_n (pc' := 5) dX12_init_4 rfl rfl ?_
  refine ex_sipush (v := 1000) (pc' := 8) dX12_init_5 (by decide) rfl ?_
  refine en_narrI (pc' := 10) (a := 197) (nn := 1000) (h2 := hh_454) dX12_init_8 (by decide +kernel) rfl rfl ?_
  refine en_putR (pc' := 13) (n := 39) (h2 := hh_455) dX12_init_10 fl_12_7 (by decide +kernel) (by decide) (by decide) rfl rfl ?_
  refine ex_aload_n (pc' := 14) dX12_init_13 rfl rfl ?_
  refine ex_iconst (v := (-1)) (pc' := 15) dX12_init_14 (by decide) rfl ?_
  refine en_putI (pc' := 18) (n := 39) (h2 := hh_456) dX12_init_15 fl_12_13 (by decide +kernel) (by decide) (by decide) rfl rfl ?_
  refine ex_aload_n (pc' := 19) dX12_init_18 rfl rfl ?_
  refine ex_bipush (v := 8) (pc' := 21) dX12_init_19 (by decide) rfl ?_
  refine en_narrI (pc' := 23) (a := 198) (nn := 8) (h2 := hh_457) dX12_init_21 (by decide +kernel) rfl rfl ?_
  refine en_putR (pc' := 26) (n := 39) (h2 := hh_458) dX12_init_23 fl_12_17 (by decide +kernel) (by decide) (by decide) rfl rfl ?_
  refine ex_aload_n (pc' := 27) dX12_init_26 rfl rfl ?_
  refine ex_sipush (v := 363) (pc' := 30) dX12_init_27 (by decide) rfl ?_
  refine en_narrI (pc' := 32) (a := 199) (nn := 363) (h2 := hh_459) dX12_init_30 (by decide +kernel) rfl rfl ?_
  refine en_putR (pc' := 35) (n := 39) (h2 := hh_460) dX12_init_32 fl_12_20 (by decide +kernel) (by decide) (by decide) rfl rfl ?_
  refine ex_aload_n (pc' := 36) dX12_init_35 rfl rfl ?_
  refine ex_sipush (v := 363) (pc' := 39) dX12_init_36 (by decide) rfl ?_
  refine en_narrI (pc' := 41) (a := 200) (nn := 363) (h2 := hh_461) dX12_init_39 (by decide +kernel) rfl rfl ?_
  refine en_putR (pc' := 44) (n := 39) (h2 := hh_462) dX12_init_41 fl_12_23 (by decide +kernel) (by decide) (by decide) rfl rfl ?_
  refine ex_aload_n (pc' := 45) dX12_init_44 rfl rfl ?_
  refine ex_bipush (v := 76) (pc' := 47) dX12_init_45 (by decide) rfl ?_
  refine en_narrI (pc' := 49) (a := 201) (nn := 76) (h2 := hh_463) dX12_init_47 (by decide +kernel) rfl rfl ?_
  refine en_putR (pc' := 52) (n := 39) (h2 := hh_464) dX12_init_49 fl_12_26 (by decide +kernel) (by decide) (by decide) rfl rfl ?_
  refine ex_aload_n (pc' := 53) dX12_init_52 rfl rfl ?_
  refine ex_sipush (v := 912) (pc' := 56) dX12_init_53 (by decide) rfl ?_
  refine en_narrI (pc' := 58) (a := 202) (nn := 912) (h2 := hh_465) dX12_init_56 (by decide +kernel) rfl rfl ?_
  refine en_putR (pc' := 61) (n := 39) (h2 := hh_466) dX12_init_58 fl_12_29 (by decide +kernel) (by decide) (by decide) rfl rfl ?_
  refine ex_aload_n (pc' := 62) dX12_init_61 rfl rfl ?_
  refine ex_sipush (v := 228) (pc' := 65) dX12_init_62 (by decide) rfl ?_
  refine en_narrI (pc' := 67) (a := 203) (nn := 228) (h2 := hh_467) dX12_init_65 (by decide +kernel) rfl rfl ?_
  refine en_putR (pc' := 70) (n := 39) (h2 := hh_468) dX12_init_67 fl_12_32 (by decide +kernel) (by decide) (by decide) rfl rfl ?_
  refine ex_aload_n (pc' := 71) dX12_init_70 rfl rfl ?_
  refine ex_sipush (v := 3200) (pc' := 74) dX12_init_71 (by decide) rfl ?_
  refine en_narrI (pc' := 76) (a := 204) (nn := 3200) (h2 := hh_469) dX12_init_74 (by decide +kernel) rfl rfl ?_
  refine en_putR (pc' := 79) (n := 39) (h2 := hh_470) dX12_init_76 fl_12_35 (by decide +kernel) (by decide) (by decide) rfl rfl ?_
  refine ex_aload_n (pc' := 80) dX12_init_79 rfl rfl ?_
  refine ex_bipush (v := 7) (pc' := 82) dX12_init_80 (by decide) rfl ?_
  refine en_narrI (pc' := 84) (a := 205) (nn := 7) (h2 := hh_471) dX12_init_82 (by decide +kernel) rfl rfl ?_
  refine en_putR (pc' := 87) (n := 39) (h2 := hh_472) dX12_init_84 fl_12_38 (by decide +kernel) (by decide) (by decide) rfl rfl ?_
  refine ex_aload_n (pc' := 88) dX12_init_87 rfl rfl ?_
  refine ex_bipush (v := 7) (pc' := 90) dX12_init_88 (by decide) rfl ?_
  refine en_narrI (pc' := 92) (a := 206) (nn := 7) (h2 := hh_473) dX12_init_90 (by decide +kernel) rfl rfl ?_
  refine en_putR (pc' := 95) (n := 39) (h2 := hh_474) dX12_init_92 fl_12_41 (by decide +kernel) (by decide) (by decide) rfl rfl ?_
  refine ex_aload_n (pc' := 96) dX12_init_95 rfl rfl ?_
  refine ex_bipush (v := 8) (pc' := 98) dX12_init_96 (by decide) rfl ?_
  refine en_narrI (pc' := 100) (a := 207) (nn := 8) (h2 := hh_475) dX12_init_98 (by decide +kernel) rfl rfl ?_
  refine en_putR (pc' := 103) (n := 39) (h2 := hh_476) dX12_init_100 fl_12_44 (by decide +kernel) (by decide) (by decide) rfl rfl ?_
  refine ex_aload_n (pc' := 104) dX12_init_103 rfl rfl ?_
  refine ex_bipush (v := 8) (pc' := 106) dX12_init_104 (by decide) rfl ?_
  refine en_narrI (pc' := 108) (a := 208) (nn := 8) (h2 := hh_477) dX12_init_106 (by decide +kernel) rfl rfl ?_
  refine en_putR (pc' := 111) (n := 39) (h2 := hh_478) dX12_init_108 fl_12_47 (by decide +kernel) (by decide) (by decide) rfl rfl ?_
  refine ex_aload_n (pc' := 112) dX12_init_111 rfl rfl ?_
  refine ex_bipush (v := 40) (pc' := 114) dX12_init_112 (by decide) rfl ?_
  refine en_narrI (pc' := 116) (a := 209) (nn := 40) (h2 := hh_479) dX12_init_114 (by decide +kernel) rfl rfl ?_
  refine en_putR (pc' := 119) (n := 39) (h2 := hh_480) dX12_init_116 fl_12_50 (by decide +kernel) (by decide) (by decide) rfl rfl ?_
  refine ex_aload_n (pc' := 120) dX12_init_119 rfl rfl ?_
  refine ex_bipush (v := 49) (pc' := 122) dX12_init_120 (by decide) rfl ?_
  refine en_narrI (pc' := 124) (a := 210) (nn := 49) (h2 := hh_481) dX12_init_122 (by decide +kernel) rfl rfl ?_
  refine en_putR (pc' := 127) (n := 39) (h2 := hh_482) dX12_init_124 fl_12_53 (by decide +kernel) (by decide) (by decide) rfl rfl ?_
  refine ex_aload_n (pc' := 128) dX12_init_127 rfl rfl ?_
  refine ex_bipush (v := 7) (pc' := 130) dX12_init_128 (by decide) rfl ?_
  refine en_narrI (pc' := 132) (a := 211) (nn := 7) (h2 := hh_483) dX12_init_130 (by decide +kernel) rfl rfl ?_
  refine en_putR (pc' := 135) (n := 39) (h2 := hh_484) dX12_init_132 fl_12_56 (by decide +kernel) (by decide) (by decide) rfl rfl ?_
  refine ex_aload_n (pc' := 136) dX12_init_135 rfl rfl ?_
  refine ex_bipush (v := 7) (pc' := 138) dX12_init_136 (by decide) rfl ?_
  refine en_narrI (pc' := 140) (a := 212) (nn := 7) (h2 := hh_485) dX12_init_138 (by decide +kernel) rfl rfl ?_
  refine en_putR (pc' := 143) (n := 39) (h2 := hh_486) dX12_init_140 fl_12_59 (by decide +kernel) (by decide) (by decide) rfl rfl ?_
  exact ex_vretV dX12_init_143 rfl rfl
end Pk11
section Pk12
set_option maxRecDepth 20000 in
theorem k_law0 {L : Nat} {xs : Nat → Int32} {Q : Option zV → zH → Prop} (d : Nat) (kk : zEx (some (L, xs)) (d + 4) mL_law (20, [(3, .inr (.inr (some 213))), (2, .inr (.inr (some 196))), (1, .inr (.inr (some 0))), (0, .inr (.inr (some 1000000)))], [], hh_487) Q) : zEx (some (L, xs)) (d + 4) mL_law (0, [(0, .inr (.inr (some 1000000)))], [], hh_0) Q := by
  refine en_new (pc' := 3) (a := 0) (nf := 16) (h2 := hh_1) dL_law_0 kl_13_8 (by decide +kernel) rfl rfl ?_
  refine ex_dup (pc' := 4) dL_law_3 rfl rfl ?_
  refine en_calliV (pc' := 7) (a := 0) (n := 16) (h2 := hh_452) (vs := []) (rest := [.inr (.inr (some 0))]) dL_law_4 ml_13_15 (by decide) ⟨by decide, by decide⟩ rfl rfl (by decide +kernel) (by decide) (by decide) rfl (kc_1 _) ?_
  refine ex_astore_n (pc' := 8) (ls' := [(1, .inr (.inr (some 0))), (0, .inr (.inr (some 1000000)))]) dL_law_7 (by decide) rfl rfl ?_
  refine en_new (pc' := 11) (a := 196) (nf := 39) (h2 := hh_453) dL_law_8 kl_13_16 (by decide +kernel) rfl rfl ?_
  refine ex_dup (pc' := 12) dL_law_11 rfl rfl ?_
  refine en_calliV (pc' := 15) (a := 196) (n := 39) (h2 := hh_486) (vs := []) (rest := [.inr (.inr (some 196))]) dL_law_12 ml_13_18 (by decide) ⟨by decide, by decide⟩ rfl rfl (by decide +kernel) (by decide) (by decide) rfl (kc_91 _) ?_
  refine ex_astore_n (pc' := 16) (ls' := [(2, .inr (.inr (some 196))), (1, .inr (.inr (some 0))), (0, .inr (.inr (some 1000000)))]) dL_law_15 (by decide) rfl rfl ?_
  refine ex_iconst (v := 1) (pc' := 17) dL_law_16 (by decide) rfl ?_
  refine en_narrL (pc' := 19) (a := 213) (nn := 1) (h2 := hh_487) dL_law_17 (by decide +kernel) rfl rfl ?_
  refine ex_astore_n (pc' := 20) (ls' := [(3, .inr (.inr (some 213))), (2, .inr (.inr (some 196))), (1, .inr (.inr (some 0))), (0, .inr (.inr (some 1000000)))]) dL_law_19 (by decide) rfl rfl ?_
  exact kk
end Pk12
section Pk13
/-! calls whose answer and heap have a name; the throw of led -/
theorem zble {a b : Nat} (h : Nat.ble a b = true) : a ≤ b := Nat.le_of_ble_eq_true h
theorem zblt {a b : Nat} (h : Nat.ble (a + 1) b = true) : a < b := Nat.le_of_ble_eq_true h
theorem zsiT {h : zH} {b : Nat} {q : Option (Nat × Nat)} (e : zsh h b = q) : zsh (zthr h) b = q := e
section ZX3
variable {scr : Option (Nat × (Nat → Int32))} {d : Nat} {m : zM} {pc pc' len : Nat} {ls : zL} {st : List zV} {h h2 : zH} {Q : Option zV → zH → Prop} {i : Instr}
theorem en_callvI {k na a n : Nat} {cm : zM} {vs rest : List zV} {v : Int32} (hd : decode m.1 pc = .ok (.invokevirtual k, 3)) (hz : zmth m.2.1 k = some (0, na, cm)) (hst : na ≤ st.length ∧ zwd (st.drop na) ≤ 8) (hv : (st.take na).reverse = .inr (.inr (some a)) :: vs) (hr : st.drop na = rest) (hs : zsh h a = some (cm.2.1, n)) (hci : cm.2.1 < 13) (hw : zwd (.inr (.inr (some a)) :: vs) ≤ cm.2.2.1) (hp : pc + 3 = pc')
    (hc : zCi d cm (.inr (.inr (some a)) :: vs) h (fun x h' => x = v ∧ h' = h2)) (kk : zEx scr (d + 1) m (pc', ls, .inl v :: rest, h2) Q) : zEx scr (d + 1) m (pc, ls, st, h) Q :=
  ex_callvI hd hz hst hv hr hs hci hw hp hc (fun x h' ⟨e1, e2⟩ => by subst e1; subst e2; exact kk)
theorem en_callvL {k na a n : Nat} {cm : zM} {vs rest : List zV} {v : Int64} (hd : decode m.1 pc = .ok (.invokevirtual k, 3)) (hz : zmth m.2.1 k = some (0, na, cm)) (hst : na ≤ st.length ∧ zwd (st.drop na) ≤ 8) (hv : (st.take na).reverse = .inr (.inr (some a)) :: vs) (hr : st.drop na = rest) (hs : zsh h a = some (cm.2.1, n)) (hci : cm.2.1 < 13) (hw : zwd (.inr (.inr (some a)) :: vs) ≤ cm.2.2.1) (hp : pc + 3 = pc')
    (hc : zCl d cm (.inr (.inr (some a)) :: vs) h (fun x h' => x = v ∧ h' = h2)) (kk : zEx scr (d + 1) m (pc', ls, .inr (.inl v) :: rest, h2) Q) : zEx scr (d + 1) m (pc, ls, st, h) Q :=
  ex_callvL hd hz hst hv hr hs hci hw hp hc (fun x h' ⟨e1, e2⟩ => by subst e1; subst e2; exact kk)
theorem en_callvV {k na a n : Nat} {cm : zM} {vs rest : List zV} (hd : decode m.1 pc = .ok (.invokevirtual k, 3)) (hz : zmth m.2.1 k = some (0, na, cm)) (hst : na ≤ st.length ∧ zwd (st.drop na) ≤ 8) (hv : (st.take na).reverse = .inr (.inr (some a)) :: vs) (hr : st.drop na = rest) (hs : zsh h a = some (cm.2.1, n)) (hci : cm.2.1 < 13) (hw : zwd (.inr (.inr (some a)) :: vs) ≤ cm.2.2.1) (hp : pc + 3 = pc')
    (hc : zCv d cm (.inr (.inr (some a)) :: vs) h (fun h' => h' = h2)) (kk : zEx scr (d + 1) m (pc', ls, rest, h2) Q) : zEx scr (d + 1) m (pc, ls, st, h) Q :=
  ex_callvV hd hz hst hv hr hs hci hw hp hc (fun h' e2 => by subst e2; exact kk)
theorem en_callsI {k kd na : Nat} {cm : zM} {vs rest : List zV} {v : Int32} (hd : decode m.1 pc = .ok (.invokestatic k, 3)) (hz : zmth m.2.1 k = some (kd, na, cm)) (hkd : kd = 1 ∨ kd = 3) (hst : na ≤ st.length ∧ zwd (st.drop na) ≤ 8) (hv : (st.take na).reverse = vs) (hr : st.drop na = rest) (hw : zwd vs ≤ cm.2.2.1) (hp : pc + 3 = pc')
    (hc : zCi d cm vs h (fun x h' => x = v ∧ h' = h2)) (kk : zEx scr (d + 1) m (pc', ls, .inl v :: rest, h2) Q) : zEx scr (d + 1) m (pc, ls, st, h) Q :=
  ex_callsI hd hz hkd hst hv hr hw hp hc (fun x h' ⟨e1, e2⟩ => by subst e1; subst e2; exact kk)
theorem en_callsL {k kd na : Nat} {cm : zM} {vs rest : List zV} {v : Int64} (hd : decode m.1 pc = .ok (.invokestatic k, 3)) (hz : zmth m.2.1 k = some (kd, na, cm)) (hkd : kd = 1 ∨ kd = 3) (hst : na ≤ st.length ∧ zwd (st.drop na) ≤ 8) (hv : (st.take na).reverse = vs) (hr : st.drop na = rest) (hw : zwd vs ≤ cm.2.2.1) (hp : pc + 3 = pc')
    (hc : zCl d cm vs h (fun x h' => x = v ∧ h' = h2)) (kk : zEx scr (d + 1) m (pc', ls, .inr (.inl v) :: rest, h2) Q) : zEx scr (d + 1) m (pc, ls, st, h) Q :=
  ex_callsL hd hz hkd hst hv hr hw hp hc (fun x h' ⟨e1, e2⟩ => by subst e1; subst e2; exact kk)
theorem en_callsV {k kd na : Nat} {cm : zM} {vs rest : List zV} (hd : decode m.1 pc = .ok (.invokestatic k, 3)) (hz : zmth m.2.1 k = some (kd, na, cm)) (hkd : kd = 1 ∨ kd = 3) (hst : na ≤ st.length ∧ zwd (st.drop na) ≤ 8) (hv : (st.take na).reverse = vs) (hr : st.drop na = rest) (hw : zwd vs ≤ cm.2.2.1) (hp : pc + 3 = pc')
    (hc : zCv d cm vs h (fun h' => h' = h2)) (kk : zEx scr (d + 1) m (pc', ls, rest, h2) Q) : zEx scr (d + 1) m (pc, ls, st, h) Q :=
  ex_callsV hd hz hkd hst hv hr hw hp hc (fun h' e2 => by subst e2; exact kk)
theorem ex_thr {k ci : Nat} (hd : decode m.1 45 = .ok (.new k, 3)) (hz : zcls m.2.1 k = some ci) (hc : ¬ ci < 13) (hy : m.2.2.2.2.1 = yX11_led) (h0 : h.2.2.2.2 < 1000) (hq : Q (some (.inr (.inl (-1)))) (zthr h)) : zEx scr d m (45, ls, [], h) Q :=
  ex_end hd (Or.inr rfl) (fun _ => by simp only [zexec, hz]; rw [if_neg hc, if_pos ⟨trivial, hy, trivial, h0⟩]) hq
theorem ex_ledT {k na a o : Nat} {cm : zM} {p : Int32} {rest : List zV} (hd : decode m.1 pc = .ok (.invokestatic k, 3)) (hz : zmth m.2.1 k = some (16, na, cm)) (hsc : scr.isSome = true) (hw : zwd rest ≤ 8 ∧ zsh h a = some (11, 16) ∧ zsh h o = some (15, 1) ∧ h.2.2.2.2 < 1000) (hp : pc + 3 = pc')
    (hc : zCl d zledM [.inr (.inr (some a)), .inl p] h (fun x h' => x = -1 ∧ h' = h2)) (kk : zEx scr (d + 1) m (pc', ls, .inl 1 :: rest, h2) Q) : zEx scr (d + 1) m (pc, ls, .inr (.inr (some o)) :: .inl p :: .inr (.inr (some a)) :: rest, h) Q := by
  obtain ⟨n1, r, h1, a1, x, e1, e2, e3⟩ := hc
  subst e1; subst e2; subst e3
  obtain ⟨n2, v, h', b1, b2⟩ := kk
  refine ⟨max n1 n2 + 1, v, h', ?_, b2⟩
  rw [zrun_succ]
  have hs : zstep scr (zcf (max n1 n2) (d + 1)) (decide (0 < d + 1)) m (pc, ls, .inr (.inr (some o)) :: .inl p :: .inr (.inr (some a)) :: rest, h) = some (.inl (pc', ls, .inl 1 :: rest, h1)) := by
    unfold zstep
    rw [hd]
    dsimp only
    have hl : zilen (.invokestatic k) = 0 ∨ 3 = zilen (.invokestatic k) := Or.inr rfl
    rw [if_pos hl]
    have e : decide (0 < d + 1) = true := by simp
    rw [e]
    have hc2 : zcf (max n1 n2) (d + 1) zledM [.inr (.inr (some a)), .inl p] h = some (some (.inr (.inl (-1))), h1) := by
      unfold zcf
      dsimp only
      rw [if_pos (zble rfl)]
      exact zrun_le (Nat.le_max_left _ _) a1
    simp only [zexec, hz]
    rw [if_neg (by decide), if_pos trivial, if_pos ⟨hsc, trivial⟩]
    unfold zled
    dsimp only
    rw [if_pos hw, hc2, ← hp]
  rw [hs]
  exact zrun_le (Nat.le_max_right _ _) b1
end ZX3
end Pk13
