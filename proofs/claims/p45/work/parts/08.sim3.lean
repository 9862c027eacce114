/-! fields and arrays of the small machine over the large one -/
theorem zft_get {ci f : Nat} (h1 : ci < 13) (h2 : f < (zft ci).length) : zftok ci f = true ∧ (zTT ci f).1 = zRn ci := by
  have a1 := List.all_eq_true.mp zft_ok ci (List.mem_range.mpr h1)
  have a2 := List.all_eq_true.mp a1 f (List.mem_range.mpr h2)
  simp only [Bool.and_eq_true, decide_eq_true_eq] at a2
  exact a2
theorem zget_own {α : Type} {l : List (List α)} {o : Nat} {x : α} (h : x ∈ l.getD o []) : o < l.length := by
  rcases Nat.lt_or_ge o l.length with q | q
  · exact q
  · have e : l.getD o [] = [] := by simp [List.getD, List.getElem?_eq_none q]
    rw [e] at h
    cases h
theorem zfld_get {o k ci f : Nat} (h : zfld o k = some (ci, f)) : ci < 13 ∧ f < (zft ci).length ∧ Cond.fieldLink (zRn o) k (zRn ci) (zTT ci f).2.1 (zTT ci f).2.2.1 ∈ zws := by
  unfold zfld at h
  obtain ⟨q, h1, h2⟩ := Option.map_eq_some_iff.mp h
  have hm := zlook_mem h1
  have ho : o < 19 := zget_own hm
  have hc := List.all_eq_true.mp (zfldK o ho) _ hm
  cases h2
  simp only [zfldC, Bool.and_eq_true, decide_eq_true_eq] at hc
  exact ⟨hc.1.1.1, hc.1.1.2, zws_in hc.1.2 hc.2⟩
def zfs (B : Nat) (sp : Nat → Nat) (h : zH) (a ci : Nat) : List Value := (List.range (zft ci).length).map (fun f => zcv B sp (zfv h ci a f))
theorem zfs_len {B : Nat} {sp : Nat → Nat} {h : zH} {a ci : Nat} : (zfs B sp h a ci).length = (zft ci).length := by simp [zfs]
theorem zfs_get {B : Nat} {sp : Nat → Nat} {h : zH} {a ci f : Nat} (hf : f < (zft ci).length) : (zfs B sp h a ci)[f]? = some (zcv B sp (zfv h ci a f)) := by
  simp [zfs, hf]
theorem zE_obj {B : Nat} {sp : Nat → Nat} {cA : Nat → ClassId} {h : zH} {a ci n : Nat} (hc : ci < 13) : zE B sp cA h a ci n = .inr (ci, zfs B sp h a ci) := by
  unfold zE
  rw [if_pos hc]
  rfl
theorem zE_B {B : Nat} {sp : Nat → Nat} {cA : Nat → ClassId} {h : zH} {a n : Nat} : zE B sp cA h a 13 n = .inl (cA 13, n, .inl (h.2.1 a)) := rfl
theorem zE_I {B : Nat} {sp : Nat → Nat} {cA : Nat → ClassId} {h : zH} {a n : Nat} : zE B sp cA h a 14 n = .inl (cA 14, n, .inl (h.2.1 a)) := rfl
theorem zE_J {B : Nat} {sp : Nat → Nat} {cA : Nat → ClassId} {h : zH} {a n : Nat} : zE B sp cA h a 15 n = .inl (cA 15, n, .inr (.inl (h.2.2.1 a))) := rfl
theorem zE_R {B : Nat} {sp : Nat → Nat} {cA : Nat → ClassId} {h : zH} {a k n : Nat} (hk : 16 ≤ k) : zE B sp cA h a k n = .inl (cA k, n, .inr (.inr (.inr (.inr (fun j => (h.2.2.2.1 a j).map (zad B sp)))))) := by
  unfold zE
  rw [if_neg (by omega), if_neg (by omega), if_neg (by omega)]
/-- a field's store, in the world -/
theorem zput_W {B : Nat} {sp : Nat → Nat} {cA : Nat → ClassId} {h h' : zH} {ci a f n : Nat} {v : zV} (hq : zsh h a = some (ci, n)) (hc : ci < 13) (hf : f < (zft ci).length) (hz : zput h ci a f v = some h') :
    h'.1 = h.1 ∧ h'.2.2.2.2 = h.2.2.2.2 ∧ zW B sp cA h' = (zW B sp cA h).set a (B + a, .inr (ci, (zfs B sp h a ci).set f (zcv B sp v))) ∧ narrow (zty ci f) (zcv B sp v) = zcv B sp v ∧ fits (zty ci f) (zcv B sp v) = true := by
  have hk := (zft_get hc hf).1
  unfold zput at hz
  split at hz
  · next x =>
    split at hz
    · next hcode =>
      cases hz
      have hne : (zft ci).getD f 0 ≠ 3 := by
        have e : (zft ci).getD f 0 = (zft ci).getD f 9 := by simp [List.getD, hf]
        rw [e]
        rcases hcode with q | ⟨q, -⟩ <;> rw [q] <;> decide
      refine ⟨rfl, rfl, ?_, ?_⟩
      · rw [zW_set (h' := zsI h a f x) hq rfl (fun b hb k n => zE_sI hb), zE_obj hc]
        congr 4
        refine List.ext_getElem? fun j => ?_
        by_cases hj : j < (zft ci).length
        · rw [zfs_get hj]
          by_cases hjf : j = f
          · subst hjf
            rw [List.getElem?_set_self (by rw [zfs_len]; exact hj)]
            unfold zfv
            rw [if_neg hne]
            simp [zsI, zup]
          · rw [List.getElem?_set_ne (Ne.symm hjf), zfs_get hj]
            unfold zfv
            simp [zsI, zup, hjf]
        · rw [List.getElem?_eq_none (by rw [zfs_len]; omega), List.getElem?_eq_none (by rw [List.length_set, zfs_len]; omega)]
      · rcases hcode with q | ⟨q, hx⟩
        · simp only [zftok, q, decide_eq_true_eq] at hk
          rw [hk]
          exact ⟨rfl, rfl⟩
        · simp only [zftok, q, decide_eq_true_eq] at hk
          rw [hk]
          rcases hx with rfl | rfl
          · exact ⟨(by decide : narrow FieldType.boolean (Value.int 0) = Value.int 0), (by decide : fits FieldType.boolean (Value.int 0) = true)⟩
          · exact ⟨(by decide : narrow FieldType.boolean (Value.int 1) = Value.int 1), (by decide : fits FieldType.boolean (Value.int 1) = true)⟩
    · cases hz
  · next r =>
    split at hz
    · next hcode =>
      cases hz
      have hne : (zft ci).getD f 0 = 3 := by
        have e : (zft ci).getD f 0 = (zft ci).getD f 9 := by simp [List.getD, hf]
        rw [e]; exact hcode
      refine ⟨rfl, rfl, ?_, ?_⟩
      · rw [zW_set (h' := zsR h a f r) hq rfl (fun b hb k n => zE_sR hb), zE_obj hc]
        congr 4
        refine List.ext_getElem? fun j => ?_
        by_cases hj : j < (zft ci).length
        · rw [zfs_get hj]
          by_cases hjf : j = f
          · subst hjf
            rw [List.getElem?_set_self (by rw [zfs_len]; exact hj)]
            unfold zfv
            rw [if_pos hne]
            simp [zsR, zup]
          · rw [List.getElem?_set_ne (Ne.symm hjf), zfs_get hj]
            unfold zfv
            simp [zsR, zup, hjf]
        · rw [List.getElem?_eq_none (by rw [zfs_len]; omega), List.getElem?_eq_none (by rw [List.length_set, zfs_len]; omega)]
      · simp only [zftok, hcode] at hk
        show narrow (zty ci f) (va_rf (r.map (zad B sp))) = va_rf (r.map (zad B sp)) ∧ fits (zty ci f) (va_rf (r.map (zad B sp))) = true
        generalize zty ci f = ty at hk
        cases ty <;> first | (cases hk; done) | (cases r <;> exact ⟨rfl, rfl⟩)
    · cases hz
  · cases hz
section ZP
variable {p : Program} {l : Launch} {e : Env} {R : Room} {s : State} {m : MethodId} {args : Array Value} {below : List Frame} {meth : Method} {c : Code} {H : Heap} {locs : List Loc} {cells slots : Nat} {Q : State → Prop}
variable {cc : ByteArray} {pc : Nat} {ls : Array Slot} {rest : List Value} {D : va_G} {cl : List vw_C} {A : Nat → Prop} {a : Nat} {tys : List (ClassId × FieldType)} {ws : va_W} {H0 : Heap}
/-- a field's store, which leaves the heap's size -/
theorem zp_put (hexec : p.tables.exec = Jvm.exec) (hb : c.code = cc) {own ref C : String} {T : u_T} {N ci index : Nat} {Ts : List Cond} (hts : ∀ w ∈ Ts, w.before args s = true) (hin : ∀ w ∈ u_ws C T N, w ∈ Ts) (ty0 : Nat → FieldType) (hty : ∀ k, k < N → parseFieldDescriptor (T k).2.2.1 = some (ty0 k)) (hnm : ∀ a, a < N → ∀ b, b < N → a ≠ b → (T a).2.1 ≠ (T b).2.1) (hown : s.vm.findClass own = some m.cls) (hK : va_K D cl tys s) (hP : va_P D cl ws H) (hD : va_D A ws) (hS0 : va_S A H0 H locs) (q0 : Nat) {fs : List Value} (he : ws[q0]? = some (a, .inr (ci, fs))) (hc : cl[ci]? = some (C, T, N)) (k : Nat) (hk : k < N) (hlink : (Cond.fieldLink own index ref (T k).2.1 (T k).2.2.1).before args s = true) (hsame : ∀ x, s.fieldFound? (T k).1 (T k).2.1 (T k).2.2.1 = some x → s.fieldFound? ref (T k).2.1 (T k).2.2.1 = some x) (hfin : (T k).2.2.2 = false ∨ (meth.name = "<init>" ∧ (T k).1 = own)) {v : Value} (hn : narrow (ty0 k) v = v) (hfit : fits (ty0 k) v = true) (hl : k < fs.length)
    (hdg : decode cc pc = .ok (.putfield index, 3)) (kk : ∀ (H1 : Heap) (locs1 : List Loc), H1.size = H.size → va_P D cl (ws.set q0 (a, .inr (ci, fs.set k v))) H1 → va_S A H0 H1 locs1 → W p l e R s m args below meth c H1 locs1 cells slots Q (F0 m (pc + 3) ls rest)) : W p l e R s m args below meth c H locs cells slots Q (F0 m pc ls (v :: .ref a :: rest)) := by
  have hap := va_apart (own := own) hts hin ty0 hty hnm hK hc
  obtain ⟨r, h1, cell, q1, q2, q3, q4⟩ := hP q0 _ he
  have hr : r = (C, T, N) := Option.some.inj (h1.symm.trans hc)
  subst hr
  obtain ⟨hS, hfc, kC, hkC, hkind⟩ := hK.1 ci _ hc
  obtain ⟨cf, kf, fi, f, hi, hsl⟩ := hS k hk
  have hlay := hts _ (hin _ (u_in_lay hk))
  have hst := (u_facts hfc hkC (u_lays hts hin hk) hi).1
  unfold u_lay at hlay
  by_cases hf : (T k).2.2.2 = true
  · obtain ⟨hin2, hdecl⟩ : meth.name = "<init>" ∧ (T k).1 = own := by
      rcases hfin with q | q
      · rw [q] at hf; cases hf
      · exact q
    rw [if_pos hf] at hlay
    have hcf : m.cls = cf := by
      obtain ⟨_, _, c', _, _, _, -, -, hf', -, -, -, hown2, -⟩ := Cond.laysFinal_spec hlay
      have e1 : c' = cf := by have := hi.symm.trans hf'; simp at this; exact this.1.symm
      rw [hdecl] at hown2
      rw [← e1]; exact Option.some.inj (hown.symm.trans hown2)
    have h6 := u_fits hfc hkC hkind (Or.inr hlay) hi (hty k hk) hn hfit
    refine W.putFinK hexec hb hown hlink (hsame _ hi) hst hcf hin2 (by rw [q2]; exact h6) q1 q3 (by rw [hsl]; exact k2_hasslot (q4 k hk)) rfl rfl hdg fun H' e1 e2 e3 => ?_
    rw [hsl] at e1 ⊢
    exact kk H' _ e2 (hP.set hD he ⟨_, hc, t_OB.to (V := updV (vp_V fs) k v) ⟨_, e1, q2, q3, t_set q4 hap hk v⟩ (fun j _ => vp_updV_set hl v j)⟩ e3) (hS0.put e2 e3 (hD.2 q0 _ he))
  · rw [if_neg hf] at hlay
    have h6 := u_store hfc hkC hkind hlay hi (hty k hk) hn hfit
    refine W.putK hexec hb (f := f) ⟨hown, hlink, ⟨_, _, _, hsame _ hi⟩, hst⟩ (by rw [q2]; exact h6) q1 q3 (by rw [hsl]; exact k2_hasslot (q4 k hk)) rfl rfl hdg fun H' e1 e2 e3 => ?_
    rw [hsl] at e1 ⊢
    exact kk H' _ e2 (hP.set hD he ⟨_, hc, t_OB.to (V := updV (vp_V fs) k v) ⟨_, e1, q2, q3, t_set q4 hap hk v⟩ (fun j _ => vp_updV_set hl v j)⟩ e3) (hS0.put e2 e3 (hD.2 q0 _ he))
/-- a text by a wide index -/
theorem zp_ldcwS (hexec : p.tables.exec = Jvm.exec) (hb : c.code = cc) {own tx : String} {index q : Nat} (hown : s.vm.findClass own = some m.cls) (hZ : vk_R own index tx q s) (hdg : decode cc pc = .ok (.ldc_w index, 3))
    (k : W p l e R s m args below meth c H locs cells slots Q (F0 m (pc + 3) ls (.ref q :: rest))) : W p l e R s m args below meth c H locs cells slots Q (F0 m pc ls rest) := by
  intro T hT X
  obtain ⟨t, a1, b1⟩ := k T hT X
  refine ⟨t, ?_, b1⟩
  obtain ⟨k, cf, i, a', hk, hcf, hcp, -, hr, hev'⟩ := Cond.stringRef_spec hown hZ.1
  cases hZ.2.symm.trans hev'
  obtain ⟨k', hk', he⟩ := X.warmed.alike.2.2 _ _ hk
  have hr' : k'.resolved[index]? = some (some (.string q)) := by
    rcases X.warmed.entry hk hk' index with h | ⟨h, -⟩
    · rw [h]; exact hr
    · rw [hr] at h; cases h
  have hdg' : decode c.code (F0 m pc ls rest).pc = .ok (.ldc_w index, 3) := by rw [hb]; exact hdg
  jvm_step X.here [hexec, hdg', ldc_w.wp_string (e := e) (s := T) (f := F0 m pc ls rest) X.here.top hk' (by rw [he]; exact hcf) hcp hr']
  exact a1
/-- stores into arrays, which leave the heap's size -/
theorem zp_iast (hexec : p.tables.exec = Jvm.exec) (hb : c.code = cc) (hK : va_K D cl tys s) (hP : va_P D cl ws H) (hD : va_D A ws) (hS : va_S A H0 H locs) (q0 t0 : Nat) {cA : ClassId} {n : Nat} {f : Nat → Int32} (ha : ws[q0]? = some (a, .inl (cA, n, .inl f))) (ht : tys[t0]? = some (cA, .int)) {i : Int32} {x : Int32} (hin : vp_in i n) (hdg : decode cc pc = .ok (.iastore, 1))
    (kk : ∀ (H1 : Heap) (locs1 : List Loc), H1.size = H.size → va_P D cl (ws.set q0 (a, .inl (cA, n, .inl (upd f i.toNatClampNeg x)))) H1 → va_S A H0 H1 locs1 → W p l e R s m args below meth c H1 locs1 cells slots Q (F0 m (pc + 1) ls rest)) : W p l e R s m args below meth c H locs cells slots Q (F0 m pc ls (.int x :: .int i :: .ref a :: rest)) := by
  refine W.iast hexec hb (hP q0 _ ha) ((hK.2 t0 _ ht).1 n (fun j => .int (f j))) (fun q => by cases q) (by show ¬ (i < 0 ∨ (arrV _ _ _).slots.size ≤ _); rw [arrV_size]; exact hin) rfl rfl hdg fun H1 e z oq => ?_
  refine kk H1 _ z (hP.set hD ha ?_ oq) (hS.put z oq (hD.2 q0 _ ha))
  show H1[a]? = some (vp_cell _ _)
  rw [e, vp_cell_i, vp_cell_i, arrV_store]
  congr 2
  funext q
  by_cases hq : q = i.toNatClampNeg
  · subst hq; simp [updV, upd]
  · simp [updV, upd, hq]
theorem zp_bast (hexec : p.tables.exec = Jvm.exec) (hb : c.code = cc) (hK : va_K D cl tys s) (hP : va_P D cl ws H) (hD : va_D A ws) (hS : va_S A H0 H locs) (q0 t0 : Nat) {cA : ClassId} {n : Nat} {f : Nat → Int32} (ha : ws[q0]? = some (a, .inl (cA, n, .inl f))) (ht : tys[t0]? = some (cA, .byte)) {i : Int32} {x : Int32} (hin : vp_in i n) (hdg : decode cc pc = .ok (.bastore, 1))
    (kk : ∀ (H1 : Heap) (locs1 : List Loc), H1.size = H.size → va_P D cl (ws.set q0 (a, .inl (cA, n, .inl (upd f i.toNatClampNeg (vp_nar .byte x))))) H1 → va_S A H0 H1 locs1 → W p l e R s m args below meth c H1 locs1 cells slots Q (F0 m (pc + 1) ls rest)) : W p l e R s m args below meth c H locs cells slots Q (F0 m pc ls (.int x :: .int i :: .ref a :: rest)) := by
  refine W.bast hexec hb (hP q0 _ ha) ((hK.2 t0 _ ht).1 n (fun j => .int (f j))) (fun q => by cases q) (by show ¬ (i < 0 ∨ (arrV _ _ _).slots.size ≤ _); rw [arrV_size]; exact hin) rfl rfl hdg fun H1 e z oq => ?_
  refine kk H1 _ z (hP.set hD ha ?_ oq) (hS.put z oq (hD.2 q0 _ ha))
  show H1[a]? = some (vp_cell _ _)
  rw [e, vp_cell_i, vp_cell_i, arrV_store]
  congr 2
  funext q
  by_cases hq : q = i.toNatClampNeg
  · subst hq; simp [updV, upd, vp_nar]; rfl
  · simp [updV, upd, hq]
theorem zp_last (hexec : p.tables.exec = Jvm.exec) (hb : c.code = cc) (hK : va_K D cl tys s) (hP : va_P D cl ws H) (hD : va_D A ws) (hS : va_S A H0 H locs) (q0 t0 : Nat) {cA : ClassId} {n : Nat} {f : Nat → Int64} (ha : ws[q0]? = some (a, .inl (cA, n, .inr (.inl f)))) (ht : tys[t0]? = some (cA, .long)) {i : Int32} {x : Int64} (hin : vp_in i n) (hdg : decode cc pc = .ok (.lastore, 1))
    (kk : ∀ (H1 : Heap) (locs1 : List Loc), H1.size = H.size → va_P D cl (ws.set q0 (a, .inl (cA, n, .inr (.inl (vp_updL f i.toNatClampNeg x))))) H1 → va_S A H0 H1 locs1 → W p l e R s m args below meth c H1 locs1 cells slots Q (F0 m (pc + 1) ls rest)) : W p l e R s m args below meth c H locs cells slots Q (F0 m pc ls (.long x :: .int i :: .ref a :: rest)) := by
  refine W.last hexec hb (hP q0 _ ha) ((hK.2 t0 _ ht).1 n (fun j => .long (f j))) (fun q => by cases q) (by show ¬ (i < 0 ∨ (arrV _ _ _).slots.size ≤ _); rw [arrV_size]; exact hin) rfl rfl hdg fun H1 e z oq => ?_
  refine kk H1 _ z (hP.set hD ha ?_ oq) (hS.put z oq (hD.2 q0 _ ha))
  show H1[a]? = some (vp_cell _ _)
  rw [e, vp_cell_l, vp_cell_l, arrV_store]
  congr 2
  funext q
  by_cases hq : q = i.toNatClampNeg
  · subst hq; simp [updV, vp_updL]
  · simp [updV, vp_updL, hq]
theorem zp_astq (hexec : p.tables.exec = Jvm.exec) (hb : c.code = cc) (hK : va_K D cl tys s) (hP : va_P D cl ws H) (hD : va_D A ws) (hS : va_S A H0 H locs) (q0 t0 qk ci : Nat) {cA : ClassId} {r : vw_C} {n v : Nat} {vs : List Value} {f : Nat → Option Nat} (ha : ws[q0]? = some (a, .inl (cA, n, .inr (.inr (.inr (.inr f)))))) (ht : tys[t0]? = some (cA, .object r.1)) (hv : ws[qk]? = some (v, .inr (ci, vs))) (hc : cl[ci]? = some r) {i : Int32} (hin : vp_in i n) (hdg : decode cc pc = .ok (.aastore, 1))
    (kk : ∀ (H1 : Heap) (locs1 : List Loc), H1.size = H.size → va_P D cl (ws.set q0 (a, .inl (cA, n, .inr (.inr (.inr (.inr (va_up f i.toNatClampNeg (some v)))))))) H1 → va_S A H0 H1 locs1 → W p l e R s m args below meth c H1 locs1 cells slots Q (F0 m (pc + 1) ls rest)) : W p l e R s m args below meth c H locs cells slots Q (F0 m pc ls (.ref v :: .int i :: .ref a :: rest)) := by
  have hlt : i.toNatClampNeg < n := Nat.not_le.mp fun q => hin (Or.inr q)
  have h0 : ¬ i < 0 := fun q => hin (Or.inl q)
  obtain ⟨r', hr', cellV, g1, g2, g3, -⟩ := hP qk _ hv
  have hcls := (hK.1 ci r hc).2
  obtain ⟨kA, comp, k1, k2, k3, -⟩ := (hK.2 t0 _ ht).2
  have hcomp : comp = D.1 ci := Option.some.inj (k3.symm.trans hcls.1)
  subst hcomp
  obtain ⟨kC, hkC, -⟩ := hcls.2
  refine W.aast hexec hb (hP q0 _ ha) (fun q h => by cases h) (fun h => by cases h) k1 k2 rfl hkC ⟨h0, by show _ < (arrV _ _ _).slots.size; rw [arrV_size]; exact hlt⟩ g1 (fun q h => by rw [g3] at h; cases h) (by rw [g2]; exact hkC) (by rw [g2]; exact va_assign hcls) rfl rfl hdg fun H1 e z oq => ?_
  refine kk H1 _ z (hP.set hD ha ?_ oq) (hS.put z oq (hD.2 q0 _ ha))
  show H1[a]? = some (vp_cell _ _)
  rw [e, vp_cell_q, vp_cell_q, arrV_store]
  congr 2
  funext q
  by_cases hq : q = i.toNatClampNeg
  · subst hq; simp [updV, va_up, va_rf]
  · simp [updV, va_up, hq]
/-- new cells, at the heap's end -/
theorem zp_new {c0 : Code} (hexec : p.tables.exec = Jvm.exec) (hb : c0.code = cc) {own C : String} {T : u_T} {N ci index : Nat} {Ts : List Cond} (hts : ∀ w ∈ Ts, w.before args s = true) (hin : ∀ w ∈ u_ws C T N, w ∈ Ts) (ty : Nat → FieldType) (hty : ∀ k, k < N → parseFieldDescriptor (T k).2.2.1 = some (ty k)) (hown : s.vm.findClass own = some m.cls) (hcl : (Cond.classLink own index C).before args s = true) (hinst : (Cond.instantiable C N).before args s = true) (hini : (Cond.initialized C).before args s = true)
    (hK : va_K D cl tys s) (hP : va_P D cl ws H) (hS : va_S A H0 H locs) (hc : cl[ci]? = some (C, T, N)) {fs : List Value} (hfs : ∀ j, j < N → defaultValue (ty j) = vp_V fs j) (hcells : cells + 1 ≤ R.cells) (hslots : slots + N ≤ R.slots) (hdg : decode cc pc = .ok (.new index, 3))
    (kk : ∀ (H1 : Heap), H1.size = H.size + 1 → va_P D cl (ws ++ [(H.size, .inr (ci, fs))]) H1 → va_S A H0 H1 locs →
      W p l e R s m args below meth c0 H1 locs (cells + 1) (slots + N) Q (F0 m (pc + 3) ls (.ref H.size :: rest))) : W p l e R s m args below meth c0 H locs cells slots Q (F0 m pc ls rest) := by
  have hKn := hK.1 ci _ hc
  refine W.newcK hexec hb hown hcl hinst hini rfl hdg hcells hslots hKn.2.1 rfl fun H1 kC hkC e1 z1 o1 => ?_
  have hk : ∀ (k : Nat) (x : Nat × va_E), ws[k]? = some x → H1[x.1]? = H[x.1]? := fun k x hx => o1 x.1 ((hP k x hx).lt)
  refine kk H1 z1 ((hP.kept hk).app (fun k x hx => ?_)) ⟨Nat.le_trans hS.1 (by omega), fun x h1 h2 => (o1 x (Nat.lt_of_lt_of_le h1 hS.1)).trans (hS.2.1 x h1 h2), hS.2.2⟩
  have hz : k < 1 := (List.getElem?_eq_some_iff.mp hx).1
  rw [show k = 0 by omega] at hx
  cases hx
  exact ⟨_, hc, (u_born ty hts hin hKn hkC e1 hty).to hfs⟩
theorem zp_newa (hexec : p.tables.exec = Jvm.exec) (hb : c.code = cc) {atype : ArrayType} (harr : (Cond.arrayClass (newarray.typeOf atype)).before args s = true) (hP : va_P D cl ws H) (hS : va_S A H0 H locs)
    {n : Int32} {N' : Nat} {a0 : vp_A} {cX : ClassId} (hX : s.vm.findClass ("[" ++ (newarray.typeOf atype).toString) = some cX) (ha : vp_cell cX a0 = arrV cX N' (fun _ => defaultValue (newarray.typeOf atype))) (hn : ¬ n < 0) (hN : n.toNatClampNeg = N') (hbytes : N' * componentBytes (newarray.typeOf atype) ≤ 536870912) (hcells : cells + 1 ≤ R.cells) (hslots : slots + N' ≤ R.slots) (hdg : decode cc pc = .ok (.newarray atype, 2))
    (kk : ∀ (H1 : Heap), H1.size = H.size + 1 → va_P D cl (ws ++ [(H.size, .inl (cX, a0))]) H1 → va_S A H0 H1 locs →
      W p l e R s m args below meth c H1 locs (cells + 1) (slots + N') Q (F0 m (pc + 2) ls (.ref H.size :: rest))) : W p l e R s m args below meth c H locs cells slots Q (F0 m pc ls (.int n :: rest)) := by
  refine va_newaK hexec hb harr rfl hdg rfl hn hN hbytes hcells hslots rfl fun H1 cA e1 z1 o1 hAr hNm => ?_
  have hcc : cA = cX := Option.some.inj (hNm.symm.trans hX)
  subst hcc
  have hk : ∀ (k : Nat) (x : Nat × va_E), ws[k]? = some x → H1[x.1]? = H[x.1]? := fun k x hx => o1 x.1 ((hP k x hx).lt)
  refine kk H1 z1 ((hP.kept hk).app (fun k x hx => ?_)) ⟨Nat.le_trans hS.1 (by omega), fun x h1 h2 => (o1 x (Nat.lt_of_lt_of_le h1 hS.1)).trans (hS.2.1 x h1 h2), hS.2.2⟩
  have hz : k < 1 := (List.getElem?_eq_some_iff.mp hx).1
  rw [show k = 0 by omega] at hx
  cases hx
  show H1[H.size]? = some (vp_cell _ _)
  rw [ha]
  exact e1
theorem zp_newq (hexec : p.tables.exec = Jvm.exec) (hb : c.code = cc) {own C : String} {index : Nat} (hown : s.vm.findClass own = some m.cls) (hclink : (Cond.classLink own index C).before args s = true) (hover : va_AO C s) (hP : va_P D cl ws H) (hS : va_S A H0 H locs)
    {n : Int32} {N' : Nat} {cX : ClassId} (hX : s.vm.findClass ("[" ++ (FieldType.object C).toString) = some cX) (hn : ¬ n < 0) (hN : n.toNatClampNeg = N') (hbytes : N' * 4 ≤ 536870912) (hcells : cells + 1 ≤ R.cells) (hslots : slots + N' ≤ R.slots) (hdg : decode cc pc = .ok (.anewarray index, 3))
    (kk : ∀ (H1 : Heap), H1.size = H.size + 1 → va_P D cl (ws ++ [(H.size, .inl (cX, N', .inr (.inr (.inr (.inr (fun _ => none))))))]) H1 → va_S A H0 H1 locs →
      W p l e R s m args below meth c H1 locs (cells + 1) (slots + N') Q (F0 m (pc + 3) ls (.ref H.size :: rest))) : W p l e R s m args below meth c H locs cells slots Q (F0 m pc ls (.int n :: rest)) := by
  subst hN
  refine W.anew hexec hb hown hclink (va_AO.use hover) rfl hdg rfl hn hbytes hcells hslots fun cA kA comp f1 f2 f3 f4 => ?_
  have hcc : cA = cX := Option.some.inj (f1.symm.trans hX)
  subst hcc
  generalize hH1 : H.push ({ cls := cA, slots := Array.replicate n.toNatClampNeg .null, vm := .none } : Cell) = H1
  have z1 : H1.size = H.size + 1 := by rw [← hH1, Array.size_push]
  have e1 : H1[H.size]? = some (arrV cA n.toNatClampNeg (fun _ => .null)) := by rw [← hH1, Array.getElem?_push_size, ← arrV_new]
  have o1 : ∀ q : Nat, q < H.size → H1[q]? = H[q]? := fun q hq => by rw [← hH1, Array.getElem?_push, if_neg (Nat.ne_of_lt hq)]
  have hk : ∀ (k : Nat) (x : Nat × va_E), ws[k]? = some x → H1[x.1]? = H[x.1]? := fun k x hx => o1 x.1 ((hP k x hx).lt)
  refine kk H1 z1 ((hP.kept hk).app (fun k x hx => ?_)) ⟨Nat.le_trans hS.1 (by omega), fun x h1 h2 => (o1 x (Nat.lt_of_lt_of_le h1 hS.1)).trans (hS.2.1 x h1 h2), hS.2.2⟩
  have hz : k < 1 := (List.getElem?_eq_some_iff.mp hx).1
  rw [show k = 0 by omega] at hx
  cases hx
  show H1[H.size]? = some (vp_cell _ _)
  rw [vp_cell_q]
  exact e1
end ZP
section ZS3
variable {p : Program} {l : Launch} {e : Env} {R : Room} {s : State} {m : MethodId} {args : Array Value} {below : List Frame} {meth : Method} {c : Code} {Q : State → Prop} {B : Nat} {sp : Nat → Nat} {cA : Nat → ClassId} {D : va_G} {mi : zM} {c0 s0 : Nat}
variable {pc len : Nat} {ls : zL} {st : List zV} {h : zH}
theorem zok_lt {a : Nat} {q : Nat × Nat} (hk : zok h) (hq : zsh h a = some q) : a < 1000000 := by
  have := zsh_lt hq
  have := hk.1
  omega
theorem zs_get {k a ci f n : Nat} (cx : zX p s m args meth c B sp cA D mi) (hd : decode mi.1 pc = .ok (.getfield k, 3)) (hz : zfld mi.2.1 k = some (ci, f)) (hq : zsh h a = some (ci, n)) (kk : zK p l e R s m args below meth c Q B sp cA D mi c0 s0 (pc + 3, ls, zfv h ci a f :: st, h)) : zK p l e R s m args below meth c Q B sp cA D mi c0 s0 (pc, ls, .inr (.inr (some a)) :: st, h) := by
  intro H locs lA cells slots hR hS hl h1 h2
  obtain ⟨hx, hb, hml, hown, hts, hin, hK, -⟩ := cx
  obtain ⟨hc, hf, hw⟩ := zfld_get hz
  have hW := zW_get (B := B) (sp := sp) (cA := cA) hq
  rw [zE_obj hc] at hW
  show W p l e R s m args below meth c H locs cells slots Q (F0 m pc lA (zcv B sp (.inr (.inr (some a))) :: st.map (zcv B sp)))
  rw [zcv_ref (zok_lt hR.2.1 hq)]
  exact va_get hx hb hts (zcl_ws hc) hown hK hR.1 a hW (zcl_cl hc) f hf (hts _ hw) (by rw [(zft_get hc hf).2]; exact fun _ q => q) (zfs_get hf) hd (kk H locs lA cells slots hR hS hl h1 h2)
theorem zs_put {k a ci f n : Nat} {v : zV} {h' : zH} (cx : zX p s m args meth c B sp cA D mi) (hd : decode mi.1 pc = .ok (.putfield k, 3)) (hz : zfld mi.2.1 k = some (ci, f)) (hq : zsh h a = some (ci, n)) (hfi : zfin ci f = false ∨ (mi.2.2.2.2.2 = true ∧ mi.2.1 = ci)) (hp : zput h ci a f v = some h')
    (kk : zK p l e R s m args below meth c Q B sp cA D mi c0 s0 (pc + 3, ls, st, h')) : zK p l e R s m args below meth c Q B sp cA D mi c0 s0 (pc, ls, v :: .inr (.inr (some a)) :: st, h) := by
  intro H locs lA cells slots hR hS hl h1 h2
  obtain ⟨hx, hb, hml, hown, hts, hin, hK, -⟩ := cx
  obtain ⟨hc, hf, hw⟩ := zfld_get hz
  have hW := zW_get (B := B) (sp := sp) (cA := cA) hq
  rw [zE_obj hc] at hW
  obtain ⟨e1, e2, e3, e4, e5⟩ := zput_W (B := B) (sp := sp) (cA := cA) hq hc hf hp
  show W p l e R s m args below meth c H locs cells slots Q (F0 m pc lA (zcv B sp v :: zcv B sp (.inr (.inr (some a))) :: st.map (zcv B sp)))
  rw [zcv_ref (zok_lt hR.2.1 hq)]
  have hzc : zc h' = zc h := by unfold zc; rw [e1, e2]
  have hzt : zt h' = zt h := by unfold zt; rw [e1, e2]
  have hok : zok h' := by unfold zok zsh; rw [e1]; exact hR.2.1
  refine zp_put hx hb hts (zcl_ws hc) (zty ci) (zcl_ty hc) (zcl_nm hc) hown hK hR.1 zW_D hS a hW (zcl_cl hc) f hf (hts _ hw) (by rw [(zft_get hc hf).2]; exact fun _ q => q) ?_ e4 e5 (by rw [zfs_len]; exact hf) hd (fun H1 locs1 hz1 hP1 hS1 => ?_)
  · rcases hfi with q | ⟨q1, q2⟩
    · exact Or.inl q
    · exact Or.inr ⟨hin q1, by rw [(zft_get hc hf).2, q2]⟩
  · exact kk H1 locs1 lA cells slots ⟨by rw [e3]; exact hP1, hok, fun q => by rw [hz1, e1]; exact hR.2.2 (by rw [← e2]; exact q)⟩ hS1 hl (by rw [hzc]; exact h1) (by rw [hzt]; exact h2)
/-- constants of the pool -/
theorem zcst_get {o k : Nat} {v : zV} (hz : zcst o k = some v) : (∃ x, v = .inl x ∧ Cond.constant (zRn o) k x ∈ zws) ∨ (∃ x, v = .inr (.inl x) ∧ Cond.constantLong (zRn o) k x ∈ zws) ∨ (∃ a q, v = .inr (.inr (some a)) ∧ 1000000 ≤ a ∧ q ∈ zsr ∧ q.1 = o ∧ q.2.1 = k ∧ q.2.2.2.1 = a) := by
  unfold zcst at hz
  obtain ⟨q, h1, h2⟩ := Option.map_eq_some_iff.mp hz
  have hm := zlook_mem h1
  have ho : o < 19 := zget_own hm
  have hc := List.all_eq_true.mp (List.all_eq_true.mp zcstK o (List.mem_range.mpr ho)) _ hm
  cases h2
  unfold zcstC at hc
  dsimp only at hc
  split at hc
  · next x hx =>
    simp only [Bool.and_eq_true, decide_eq_true_eq] at hc
    exact Or.inl ⟨x, hx, zws_in hc.1 hc.2⟩
  · next x hx =>
    simp only [Bool.and_eq_true, decide_eq_true_eq] at hc
    exact Or.inr (Or.inl ⟨x, hx, zws_in hc.1 hc.2⟩)
  · next a hx =>
    simp only [Bool.and_eq_true, decide_eq_true_eq, List.any_eq_true] at hc
    obtain ⟨⟨q', h3, ⟨h4, h5⟩, h6⟩, h7⟩ := hc
    exact Or.inr (Or.inr ⟨a, q', hx, h7, h3, h4, h5, h6⟩)
  · cases hc
theorem zs_ldv {k : Nat} {i : Instr} {v : zV} (cx : zX p s m args meth c B sp cA D mi) (hi : (i = .ldc k ∧ len = 2) ∨ (i = .ldc_w k ∧ len = 3) ∨ (i = .ldc2_w k ∧ len = 3)) (hd : decode mi.1 pc = .ok (i, len)) (hz : zcst mi.2.1 k = some v) (hn : i = .ldc2_w k ↔ zcat v = 2)
    (kk : zK p l e R s m args below meth c Q B sp cA D mi c0 s0 (pc + len, ls, v :: st, h)) : zK p l e R s m args below meth c Q B sp cA D mi c0 s0 (pc, ls, st, h) := by
  intro H locs lA cells slots hR hS hl h1 h2
  have k' := kk H locs lA cells slots hR hS hl h1 h2
  obtain ⟨hx, hb, hml, hown, hts, hin, hC⟩ := cx
  rcases zcst_get hz with ⟨x, rfl, hw⟩ | ⟨x, rfl, hw⟩ | ⟨a, q, rfl, ha, hq, e1, e2, e3⟩
  · rcases hi with ⟨rfl, rfl⟩ | ⟨rfl, rfl⟩ | ⟨rfl, rfl⟩
    · exact lv_ldc hx hb hown (hts _ hw) hd k'
    · exact lv_ldcw hx hb hown (hts _ hw) hd k'
    · exact absurd (hn.mp rfl) (by simp [zcat])
  · rcases hi with ⟨rfl, rfl⟩ | ⟨rfl, rfl⟩ | ⟨rfl, rfl⟩
    · exact absurd (hn.mpr rfl) (by simp)
    · exact absurd (hn.mpr rfl) (by simp)
    · exact lv_ldc2 hx hb hown (hts _ hw) hd k'
  · rcases hi with ⟨rfl, rfl⟩ | ⟨rfl, rfl⟩ | ⟨rfl, rfl⟩
    · have hZ := hC.2.2.1 q hq
      rw [e1, e2, e3] at hZ
      refine va_ldcS hx hb hown hZ hd ?_
      have e4 : zcv B sp (.inr (.inr (some a))) = .ref (sp a) := by
        show va_rf (some (zad B sp a)) = _
        rw [zad, if_neg (by omega)]
        rfl
      have k2 : W p l e R s m args below meth c H locs cells slots Q (F0 m (pc + 2) lA (zcv B sp (.inr (.inr (some a))) :: st.map (zcv B sp))) := k'
      rw [e4] at k2
      exact k2
    · have hZ := hC.2.2.1 q hq
      rw [e1, e2, e3] at hZ
      refine zp_ldcwS hx hb hown hZ hd ?_
      have e4 : zcv B sp (.inr (.inr (some a))) = .ref (sp a) := by
        show va_rf (some (zad B sp a)) = _
        rw [zad, if_neg (by omega)]
        rfl
      have k2 : W p l e R s m args below meth c H locs cells slots Q (F0 m (pc + 3) lA (zcv B sp (.inr (.inr (some a))) :: st.map (zcv B sp))) := k'
      rw [e4] at k2
      exact k2
    · exact absurd (hn.mp rfl) (by simp [zcat])
theorem zin_in {i : Int32} {n : Nat} (hz : zin i n = true) : vp_in i n := by
  unfold zin at hz
  exact fun hq => (of_decide_eq_true hz : ¬ (i < 0 ∨ n ≤ i.toNatClampNeg)) hq
/-- an int array's place is read, or the script's -/
theorem zs_iald {a : Nat} {i v : Int32} {scr : Option (Nat × (Nat → Int32))} (cx : zX p s m args meth c B sp cA D mi) (hd : decode mi.1 pc = .ok (.iaload, 1)) (hz : zld scr h 14 a i = some v) (hscr : ∀ L xs, scr = some (L, xs) → va_X (sp 1000000) L xs s s.heap ∧ sp 1000000 < s.heap.size ∧ sp 1000000 < B)
    (kk : zK p l e R s m args below meth c Q B sp cA D mi c0 s0 (pc + 1, ls, .inl v :: st, h)) : zK p l e R s m args below meth c Q B sp cA D mi c0 s0 (pc, ls, .inl i :: .inr (.inr (some a)) :: st, h) := by
  intro H locs lA cells slots hR hS hl h1 h2
  have k' := kk H locs lA cells slots hR hS hl h1 h2
  obtain ⟨hx, hb, hml, hown, hts, hin, hC⟩ := cx
  show W p l e R s m args below meth c H locs cells slots Q (F0 m pc lA (.int i :: zcv B sp (.inr (.inr (some a))) :: st.map (zcv B sp)))
  unfold zld at hz
  split at hz
  · next k n hq =>
    split at hz
    · next hk =>
      subst hk
      split at hz
      · next hi =>
        cases hz
        rw [zcv_ref (zok_lt hR.2.1 hq)]
        exact va_iald hx hb hC.1 hR.1 a 1 (zW_get hq) rfl (zin_in hi) hd k'
      · cases hz
    · cases hz
  · split at hz
    · next hq =>
      obtain ⟨-, rfl⟩ := hq
      split at hz
      · next L xs =>
        split at hz
        · next hi =>
          cases hz
          obtain ⟨hX, hbl, hbB⟩ := hscr L xs rfl
          have e4 : zcv B sp (.inr (.inr (some 1000000))) = .ref (sp 1000000) := rfl
          rw [e4]
          exact va_sld hx hb hX hbl (Nat.not_le.mpr hbB) hS (zin_in hi) hd k'
        · cases hz
      · cases hz
    · split at hz
      · next hq =>
        obtain ⟨-, rfl⟩ := hq
        split at hz
        · next hi =>
          cases hz
          have e4 : zcv B sp (.inr (.inr (some 1000001))) = .ref (sp 1000001) := rfl
          rw [e4]
          exact va_ti hx hb hC.2.2.2.2.2.1.2.2.2.2 hS (zin_in hi) rfl hd k'
        · cases hz
      · cases hz
theorem zs_getst (cx : zX p s m args meth c B sp cA D mi) (hd : decode mi.1 pc = .ok (.getstatic zgsk, 3)) (ho : mi.2.1 = 6)
    (kk : zK p l e R s m args below meth c Q B sp cA D mi c0 s0 (pc + 3, ls, .inr (.inr (some 1000001)) :: st, h)) : zK p l e R s m args below meth c Q B sp cA D mi c0 s0 (pc, ls, st, h) := by
  intro H locs lA cells slots hR hS hl h1 h2
  have k' := kk H locs lA cells slots hR hS hl h1 h2
  obtain ⟨hx, hb, hml, hown, hts, hin, hC⟩ := cx
  rw [ho] at hown
  refine va_getsN hx hb hC.2.2.2.2.2.1.2.2.2.1 hS hown (va_Nw.use rfl hC.2.2.2.2.2.2) (fun _ h => h) hd ?_
  exact k'
theorem zs_bald {a : Nat} {i v : Int32} {scr : Option (Nat × (Nat → Int32))} (cx : zX p s m args meth c B sp cA D mi) (hd : decode mi.1 pc = .ok (.baload, 1)) (hz : zld scr h 13 a i = some v)
    (kk : zK p l e R s m args below meth c Q B sp cA D mi c0 s0 (pc + 1, ls, .inl v :: st, h)) : zK p l e R s m args below meth c Q B sp cA D mi c0 s0 (pc, ls, .inl i :: .inr (.inr (some a)) :: st, h) := by
  intro H locs lA cells slots hR hS hl h1 h2
  have k' := kk H locs lA cells slots hR hS hl h1 h2
  obtain ⟨hx, hb, hml, hown, hts, hin, hC⟩ := cx
  show W p l e R s m args below meth c H locs cells slots Q (F0 m pc lA (.int i :: zcv B sp (.inr (.inr (some a))) :: st.map (zcv B sp)))
  unfold zld at hz
  split at hz
  · next k n hq =>
    split at hz
    · next hk =>
      subst hk
      split at hz
      · next hi =>
        cases hz
        rw [zcv_ref (zok_lt hR.2.1 hq)]
        exact va_bald hx hb hC.1 hR.1 a 0 (zW_get hq) rfl (zin_in hi) hd k'
      · cases hz
    · cases hz
  · split at hz
    · next hq => exact absurd hq.1 (by decide)
    · split at hz
      · next hq => exact absurd hq.1 (by decide)
      · cases hz
theorem zs_lald {a n : Nat} {i : Int32} (cx : zX p s m args meth c B sp cA D mi) (hd : decode mi.1 pc = .ok (.laload, 1)) (hq : zsh h a = some (15, n)) (hi : zin i n = true)
    (kk : zK p l e R s m args below meth c Q B sp cA D mi c0 s0 (pc + 1, ls, .inr (.inl (h.2.2.1 a i.toNatClampNeg)) :: st, h)) : zK p l e R s m args below meth c Q B sp cA D mi c0 s0 (pc, ls, .inl i :: .inr (.inr (some a)) :: st, h) := by
  intro H locs lA cells slots hR hS hl h1 h2
  have k' := kk H locs lA cells slots hR hS hl h1 h2
  obtain ⟨hx, hb, hml, hown, hts, hin, hC⟩ := cx
  show W p l e R s m args below meth c H locs cells slots Q (F0 m pc lA (.int i :: zcv B sp (.inr (.inr (some a))) :: st.map (zcv B sp)))
  rw [zcv_ref (zok_lt hR.2.1 hq)]
  exact va_lald hx hb hC.1 hR.1 a 2 (zW_get hq) rfl (zin_in hi) hd k'
theorem ztys_R {k : Nat} (h1 : 16 ≤ k) (h2 : k ≤ 20) : (ztys cA)[k - 13]? = some (cA k, .object (zRn (zrc k))) := by
  have : k = 16 ∨ k = 17 ∨ k = 18 ∨ k = 19 ∨ k = 20 := by omega
  rcases this with rfl | rfl | rfl | rfl | rfl <;> rfl
theorem zs_aald {a k n : Nat} {i : Int32} (cx : zX p s m args meth c B sp cA D mi) (hd : decode mi.1 pc = .ok (.aaload, 1)) (hq : zsh h a = some (k, n)) (hk : 16 ≤ k) (hk2 : k ≤ 20) (hi : zin i n = true)
    (kk : zK p l e R s m args below meth c Q B sp cA D mi c0 s0 (pc + 1, ls, .inr (.inr (h.2.2.2.1 a i.toNatClampNeg)) :: st, h)) : zK p l e R s m args below meth c Q B sp cA D mi c0 s0 (pc, ls, .inl i :: .inr (.inr (some a)) :: st, h) := by
  intro H locs lA cells slots hR hS hl h1 h2
  have k' := kk H locs lA cells slots hR hS hl h1 h2
  obtain ⟨hx, hb, hml, hown, hts, hin, hC⟩ := cx
  show W p l e R s m args below meth c H locs cells slots Q (F0 m pc lA (.int i :: zcv B sp (.inr (.inr (some a))) :: st.map (zcv B sp)))
  rw [zcv_ref (zok_lt hR.2.1 hq)]
  have hW := zW_get (B := B) (sp := sp) (cA := cA) hq
  rw [zE_R hk] at hW
  exact va_aldq hx hb hC.1 hR.1 a (k - 13) hW (ztys_R hk hk2) (zin_in hi) hd k'
theorem zs_iast {a : Nat} {i v : Int32} {h' : zH} (cx : zX p s m args meth c B sp cA D mi) (hd : decode mi.1 pc = .ok (.iastore, 1)) (hz : zst h 14 a i v = some h')
    (kk : zK p l e R s m args below meth c Q B sp cA D mi c0 s0 (pc + 1, ls, st, h')) : zK p l e R s m args below meth c Q B sp cA D mi c0 s0 (pc, ls, .inl v :: .inl i :: .inr (.inr (some a)) :: st, h) := by
  intro H locs lA cells slots hR hS hl h1 h2
  obtain ⟨hx, hb, hml, hown, hts, hin, hC⟩ := cx
  show W p l e R s m args below meth c H locs cells slots Q (F0 m pc lA (.int v :: .int i :: zcv B sp (.inr (.inr (some a))) :: st.map (zcv B sp)))
  unfold zst at hz
  split at hz
  · next k n hq =>
    split at hz
    · next hk =>
      subst hk
      split at hz
      · next hi =>
        cases hz
        rw [zcv_ref (zok_lt hR.2.1 hq)]
        refine zp_iast hx hb hC.1 hR.1 zW_D hS a 1 (zW_get hq) rfl (zin_in hi) hd (fun H1 locs1 hz1 hP1 hS1 => ?_)
        refine kk H1 locs1 lA cells slots ⟨?_, hR.2.1, fun q => by rw [hz1]; exact hR.2.2 q⟩ hS1 hl h1 h2
        rw [zW_set (h' := zsI h a i.toNatClampNeg v) hq rfl (fun b hb k n => zE_sI hb), zE_I]
        have e : (zsI h a i.toNatClampNeg v).2.1 a = upd (h.2.1 a) i.toNatClampNeg v := by
          funext j
          simp [zsI, zup, upd]
        rw [e]
        exact hP1
      · cases hz
    · cases hz
  · cases hz
theorem zs_bast {a : Nat} {i v : Int32} {h' : zH} (cx : zX p s m args meth c B sp cA D mi) (hd : decode mi.1 pc = .ok (.bastore, 1)) (hz : zst h 13 a i (vp_nar .byte v) = some h')
    (kk : zK p l e R s m args below meth c Q B sp cA D mi c0 s0 (pc + 1, ls, st, h')) : zK p l e R s m args below meth c Q B sp cA D mi c0 s0 (pc, ls, .inl v :: .inl i :: .inr (.inr (some a)) :: st, h) := by
  intro H locs lA cells slots hR hS hl h1 h2
  obtain ⟨hx, hb, hml, hown, hts, hin, hC⟩ := cx
  show W p l e R s m args below meth c H locs cells slots Q (F0 m pc lA (.int v :: .int i :: zcv B sp (.inr (.inr (some a))) :: st.map (zcv B sp)))
  unfold zst at hz
  split at hz
  · next k n hq =>
    split at hz
    · next hk =>
      subst hk
      split at hz
      · next hi =>
        cases hz
        rw [zcv_ref (zok_lt hR.2.1 hq)]
        refine zp_bast hx hb hC.1 hR.1 zW_D hS a 0 (zW_get hq) rfl (zin_in hi) hd (fun H1 locs1 hz1 hP1 hS1 => ?_)
        refine kk H1 locs1 lA cells slots ⟨?_, hR.2.1, fun q => by rw [hz1]; exact hR.2.2 q⟩ hS1 hl h1 h2
        rw [zW_set (h' := zsI h a i.toNatClampNeg (vp_nar .byte v)) hq rfl (fun b hb k n => zE_sI hb), zE_B]
        have e : (zsI h a i.toNatClampNeg (vp_nar .byte v)).2.1 a = upd (h.2.1 a) i.toNatClampNeg (vp_nar .byte v) := by
          funext j
          simp [zsI, zup, upd]
        rw [e]
        exact hP1
      · cases hz
    · cases hz
  · cases hz
theorem zs_last {a n : Nat} {i : Int32} {v : Int64} (cx : zX p s m args meth c B sp cA D mi) (hd : decode mi.1 pc = .ok (.lastore, 1)) (hq : zsh h a = some (15, n)) (hi : zin i n = true)
    (kk : zK p l e R s m args below meth c Q B sp cA D mi c0 s0 (pc + 1, ls, st, zsL h a i.toNatClampNeg v)) : zK p l e R s m args below meth c Q B sp cA D mi c0 s0 (pc, ls, .inr (.inl v) :: .inl i :: .inr (.inr (some a)) :: st, h) := by
  intro H locs lA cells slots hR hS hl h1 h2
  obtain ⟨hx, hb, hml, hown, hts, hin, hC⟩ := cx
  show W p l e R s m args below meth c H locs cells slots Q (F0 m pc lA (.long v :: .int i :: zcv B sp (.inr (.inr (some a))) :: st.map (zcv B sp)))
  rw [zcv_ref (zok_lt hR.2.1 hq)]
  refine zp_last hx hb hC.1 hR.1 zW_D hS a 2 (zW_get hq) rfl (zin_in hi) hd (fun H1 locs1 hz1 hP1 hS1 => ?_)
  refine kk H1 locs1 lA cells slots ⟨?_, hR.2.1, fun q => by rw [hz1]; exact hR.2.2 q⟩ hS1 hl h1 h2
  show va_P D vwCl (zW B sp cA (zsL h a i.toNatClampNeg v)) H1
  rw [zW_set (h' := zsL h a i.toNatClampNeg v) hq rfl (fun b hb k n => zE_sL hb), zE_J]
  have e : (zsL h a i.toNatClampNeg v).2.2.1 a = vp_updL (h.2.2.1 a) i.toNatClampNeg v := by
    funext j
    simp [zsL, zup, vp_updL]
  rw [e]
  exact hP1
theorem zs_aast {a k n v nv : Nat} {i : Int32} (cx : zX p s m args meth c B sp cA D mi) (hd : decode mi.1 pc = .ok (.aastore, 1)) (hq : zsh h a = some (k, n)) (hv : zsh h v = some (zrc k, nv)) (hk : 16 ≤ k) (hk2 : k ≤ 20) (hi : zin i n = true)
    (kk : zK p l e R s m args below meth c Q B sp cA D mi c0 s0 (pc + 1, ls, st, zsR h a i.toNatClampNeg (some v))) : zK p l e R s m args below meth c Q B sp cA D mi c0 s0 (pc, ls, .inr (.inr (some v)) :: .inl i :: .inr (.inr (some a)) :: st, h) := by
  intro H locs lA cells slots hR hS hl h1 h2
  obtain ⟨hx, hb, hml, hown, hts, hin, hC⟩ := cx
  show W p l e R s m args below meth c H locs cells slots Q (F0 m pc lA (zcv B sp (.inr (.inr (some v))) :: .int i :: zcv B sp (.inr (.inr (some a))) :: st.map (zcv B sp)))
  rw [zcv_ref (zok_lt hR.2.1 hq), zcv_ref (zok_lt hR.2.1 hv)]
  have hrc : zrc k < 13 := by
    have : k = 16 ∨ k = 17 ∨ k = 18 ∨ k = 19 ∨ k = 20 := by omega
    rcases this with rfl | rfl | rfl | rfl | rfl <;> decide
  have hW := zW_get (B := B) (sp := sp) (cA := cA) hq
  rw [zE_R hk] at hW
  have hWv := zW_get (B := B) (sp := sp) (cA := cA) hv
  rw [zE_obj hrc] at hWv
  refine zp_astq hx hb hC.1 hR.1 zW_D hS a (k - 13) v (zrc k) hW (r := (zRn (zrc k), zTT (zrc k), (zft (zrc k)).length)) (ztys_R hk hk2) hWv (zcl_cl hrc) (zin_in hi) hd (fun H1 locs1 hz1 hP1 hS1 => ?_)
  refine kk H1 locs1 lA cells slots ⟨?_, hR.2.1, fun q => by rw [hz1]; exact hR.2.2 q⟩ hS1 hl h1 h2
  show va_P D vwCl (zW B sp cA (zsR h a i.toNatClampNeg (some v))) H1
  rw [zW_set (h' := zsR h a i.toNatClampNeg (some v)) hq rfl (fun b hb k n => zE_sR hb), zE_R hk]
  have e : (fun j => ((zsR h a i.toNatClampNeg (some v)).2.2.2.1 a j).map (zad B sp)) = va_up (fun j => (h.2.2.2.1 a j).map (zad B sp)) i.toNatClampNeg (some (B + v)) := by
    funext j
    by_cases hj : j = i.toNatClampNeg
    · subst hj
      have := zok_lt hR.2.1 hv
      simp [zsR, zup, va_up, zad, this]
    · simp [zsR, zup, va_up, hj]
  rw [e]
  exact hP1
theorem zs_alen {a : Nat} {v : Int32} {scr : Option (Nat × (Nat → Int32))} (cx : zX p s m args meth c B sp cA D mi) (hd : decode mi.1 pc = .ok (.arraylength, 1)) (hz : zlen scr h a = some v) (hscr : ∀ L xs, scr = some (L, xs) → va_X (sp 1000000) L xs s s.heap ∧ sp 1000000 < s.heap.size ∧ sp 1000000 < B)
    (kk : zK p l e R s m args below meth c Q B sp cA D mi c0 s0 (pc + 1, ls, .inl v :: st, h)) : zK p l e R s m args below meth c Q B sp cA D mi c0 s0 (pc, ls, .inr (.inr (some a)) :: st, h) := by
  intro H locs lA cells slots hR hS hl h1 h2
  have k' := kk H locs lA cells slots hR hS hl h1 h2
  obtain ⟨hx, hb, hml, hown, hts, hin, hC⟩ := cx
  show W p l e R s m args below meth c H locs cells slots Q (F0 m pc lA (zcv B sp (.inr (.inr (some a))) :: st.map (zcv B sp)))
  unfold zlen at hz
  split at hz
  · next k n hq =>
    split at hz
    · next hk =>
      cases hz
      rw [zcv_ref (zok_lt hR.2.1 hq)]
      have h20 := hR.2.1.2 a _ hq
      have hW := zW_get (B := B) (sp := sp) (cA := cA) hq
      have h3 : k = 13 ∨ k = 14 ∨ k = 15 ∨ 16 ≤ k := by omega
      rcases h3 with rfl | rfl | rfl | h3
      · exact va_alen hx hb hC.1 hR.1 a 0 hW rfl rfl hd k'
      · exact va_alen hx hb hC.1 hR.1 a 1 hW rfl rfl hd k'
      · exact va_alen hx hb hC.1 hR.1 a 2 hW rfl rfl hd k'
      · rw [zE_R h3] at hW
        exact va_alen hx hb hC.1 hR.1 a (k - 13) hW (ztys_R h3 h20) rfl hd k'
    · cases hz
  · split at hz
    · next hq =>
      subst hq
      obtain ⟨⟨L, xs⟩, hs1, hs2⟩ := Option.map_eq_some_iff.mp hz
      obtain ⟨hX, hbl, hbB⟩ := hscr L xs hs1
      have e4 : zcv B sp (.inr (.inr (some 1000000))) = .ref (sp 1000000) := rfl
      rw [e4]
      subst hs2
      exact va_slen hx hb hX hbl (Nat.not_le.mpr hbB) hS hd k'
    · cases hz
end ZS3
