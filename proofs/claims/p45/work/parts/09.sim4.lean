/-! new cells, the JDK's own, calls -/
section ZP4
variable {p : Program} {l : Launch} {e : Env} {R : Room} {s : State} {m : MethodId} {args : Array Value} {below : List Frame} {meth : Method} {c : Code} {H : Heap} {locs : List Loc} {cells slots : Nat} {Q : State → Prop}
variable {cc : ByteArray} {pc : Nat} {ls : Array Slot} {rest : List Value} {D : va_G} {cl : List vw_C} {A : Nat → Prop} {a : Nat} {tys : List (ClassId × FieldType)} {ws : va_W} {H0 : Heap}
/-- System.arraycopy of ints, which leaves the heap's size -/
theorem zp_copyi (hexec : p.tables.exec = Jvm.exec) (hb : c.code = cc) (hml : c.maxLocals = ls.size) {own : String} {index : Nat} (hown : s.vm.findClass own = some m.cls) (hlink : (Cond.methodLink own index arraycopyName).before args s = true) (hnat : (Cond.native arraycopyName).before args s = true) (hstat : (Cond.static arraycopyName).before args s = true) (hini : (Cond.initialized "java/lang/System").before args s = true)
    (hK : va_K D cl tys s) (hP : va_P D cl ws H) (hD : va_D A ws) (hS : va_S A H0 H locs) (q0 q1 t0 t1 : Nat) {a0 : Nat} {c0 c1 : ClassId} {n0 n1 : Nat} {f g : Nat → Int32} (ha0 : ws[q0]? = some (a0, .inl (c0, n0, .inl f))) (ha1 : ws[q1]? = some (a, .inl (c1, n1, .inl g))) (ht0 : tys[t0]? = some (c0, .int)) (ht1 : tys[t1]? = some (c1, .int))
    {sp dp n : Int32} (h1 : ¬ sp < 0) (h2 : ¬ dp < 0) (h3 : ¬ n < 0) (h4 : sp.toNatClampNeg + n.toNatClampNeg ≤ n0) (h5 : dp.toNatClampNeg + n.toNatClampNeg ≤ n1)
    (hframes : 1 ≤ R.frames) (hlocals : (rest.map fun v => v.category).sum + 18 ≤ R.locals) (hdg : decode cc pc = .ok (.invokestatic index, 3))
    (kk : ∀ (H1 : Heap) (locs1 : List Loc), H1.size = H.size → va_P D cl (ws.set q1 (a, .inl (c1, n1, .inl (va_cpy f g sp.toNatClampNeg dp.toNatClampNeg n.toNatClampNeg)))) H1 → va_S A H0 H1 locs1 → W p l e R s m args below meth c H1 locs1 cells slots Q (F0 m (pc + 3) ls rest)) : W p l e R s m args below meth c H locs cells slots Q (F0 m pc ls (.int n :: .int dp :: .ref a :: .int sp :: .ref a0 :: rest)) := by
  have nn : ∀ z : Int32, ¬ z < 0 → z.toInt = (z.toNatClampNeg : Int) := by
    intro z hz
    have hz0 : (0 : Int) ≤ z.toInt := by
      have := Int32.not_lt.mp hz
      simpa using Int32.le_iff_toInt_le.mp this
    show z.toInt = ((z.toInt.toNat : Nat) : Int)
    omega
  intro T hT X
  have hc0 : H[a0]? = some (vp_cell c0 (n0, .inl f)) := hP q0 _ ha0
  have hc1 : H[a]? = some (vp_cell c1 (n1, .inl g)) := hP q1 _ ha1
  obtain ⟨-, k0, hk0, cm0, hkk0⟩ := (hK.2 t0 _ ht0).1 n0 (fun j => .int (f j))
  obtain ⟨-, k1, hk1, cm1, hkk1⟩ := (hK.2 t1 _ ht1).1 n1 (fun j => .int (g j))
  obtain ⟨vm', X', step⟩ := X.arraycopy hexec hown hlink hnat hstat hini (src := a0) (dst := a) (cs := vp_cell c0 (n0, .inl f)) (cd := vp_cell c1 (n1, .inl g)) (srcPos := sp) (destPos := dp) (n := n) (by rw [hT]; exact hc0) (by rw [hT]; exact hc1)
    (fun _ h => by cases h) (fun _ h => by cases h) (fun h => by cases h) (fun h => by cases h) hk0 hk1 hkk0 hkk1 (by simp [refKind]) h1 h2 h3
    (by rw [nn sp h1, nn n h3]; show ¬ _ > ((arrV c0 n0 (fun j => .int (f j))).slots.size : Int); rw [arrV_size]; omega)
    (by rw [nn dp h2, nn n h3]; show ¬ _ > ((arrV c1 n1 (fun j => .int (g j))).slots.size : Int); rw [arrV_size]; omega)
    (fun vm₁ _ i hi => by
      have e : (vp_cell c0 (n0, .inl f)).slots.getD (sp.toNatClampNeg + i) .null = .int (f (sp.toNatClampNeg + i)) := by
        show (arrV c0 n0 (fun j => .int (f j))).slots.getD _ _ = _
        rw [Array.getD_eq_getD_getElem?, arrV_read _ _ (by omega)]
        rfl
      refine ⟨?_, ?_⟩
      · rw [e]
        rfl
      · rw [e]
        exact trivial)
    (g := F0 m pc ls (.int n :: .int dp :: .ref a :: .int sp :: .ref a0 :: rest)) rfl (by rw [hml]) (rest := rest) rfl (by rw [hb]; exact hdg) hframes (by show 2 * 0 + _ + (7 + 11) ≤ _; omega)
  have e1 : copied (vp_cell c0 (n0, .inl f)) (vp_cell c1 (n1, .inl g)) sp dp n = vp_cell c1 (n1, .inl (va_cpy f g sp.toNatClampNeg dp.toNatClampNeg n.toNatClampNeg)) := va_copied (fun z => .int z) c0 c1 f g h4
  rw [e1] at X' step
  have hl : a < H.size := (Array.getElem?_eq_some_iff.mp hc1).1
  have hheap : ((T.setVm vm').setCell a (vp_cell c1 (n1, .inl (va_cpy f g sp.toNatClampNeg dp.toNatClampNeg n.toNatClampNeg)))).heap = H.setIfInBounds a (vp_cell c1 (n1, .inl (va_cpy f g sp.toNatClampNeg dp.toNatClampNeg n.toNatClampNeg))) := by rw [← hT]; rfl
  have oq : ∀ q : Nat, q ≠ a → (H.setIfInBounds a (vp_cell c1 (n1, .inl (va_cpy f g sp.toNatClampNeg dp.toNatClampNeg n.toNatClampNeg))))[q]? = H[q]? := fun q hq => by simp [Array.getElem?_setIfInBounds, Ne.symm hq]
  obtain ⟨t, a1, b1⟩ := kk _ _ (by simp) (hP.set hD ha1 (show (H.setIfInBounds a _)[a]? = some _ by simp [Array.getElem?_setIfInBounds, hl]) oq) ⟨by simp; exact hS.1, fun q g1 g2 => by
      rw [oq q (fun e => g2 (by rw [e]; exact hD.2 q1 _ ha1))]
      exact hS.2.1 q g1 g2, fun q hq => by
      rcases List.mem_append.mp hq with h | h
      · exact hS.2.2 q h
      · obtain ⟨z, -, hz⟩ := List.mem_map.mp h
        rw [← hz]
        exact hD.2 q1 _ ha1⟩ _ hheap X'
  exact ⟨t, step t a1, b1⟩
end ZP4
section ZS4
variable {p : Program} {l : Launch} {e : Env} {R : Room} {s : State} {m : MethodId} {args : Array Value} {below : List Frame} {meth : Method} {c : Code} {Q : State → Prop} {B : Nat} {sp : Nat → Nat} {cA : Nat → ClassId} {D : va_G} {mi : zM} {c0 s0 : Nat}
variable {pc len : Nat} {ls : zL} {st : List zV} {h : zH}
theorem zok_new {k n : Nat} (hk : zok h) (h20 : k ≤ 20) (hl : h.1.1 < 900000) : zok (znew h k n) := by
  refine ⟨by show h.1.1 + 1 ≤ 900000; omega, fun a q hq => ?_⟩
  have hl := zsh_lt hq
  have he := zsh_eq hq
  simp only [znew] at hl he
  by_cases ha : a = h.1.1
  · rw [if_pos ha] at he
    subst he
    exact h20
  · rw [if_neg ha] at he
    exact hk.2 a q (by unfold zsh; rw [if_pos (by omega), he])
theorem zc_new {k n : Nat} : zc (znew h k n) = zc h + 1 := by simp [zc, znew]; omega
theorem zt_new {k n : Nat} : zt (znew h k n) = zt h + n := by simp [zt, znew]; omega
theorem zcls_get {o k ci : Nat} (hz : zcls o k = some ci) (hci : ci < 13) : Cond.classLink (zRn o) k (zRn ci) ∈ zws := by
  unfold zcls at hz
  obtain ⟨q, h1, h2⟩ := Option.map_eq_some_iff.mp hz
  have hm := zlook_mem h1
  have ho : o < 19 := zget_own hm
  have hc := List.all_eq_true.mp (List.all_eq_true.mp zclsK o (List.mem_range.mpr ho)) _ hm
  cases h2
  unfold zclsC at hc
  rw [if_pos hci] at hc
  simp only [Bool.and_eq_true, decide_eq_true_eq] at hc
  exact zws_in hc.1 hc.2
theorem zins_get {ci : Nat} (hci : ci < 13) : Cond.instantiable (zRn ci) (zft ci).length ∈ zws ∧ Cond.initialized (zRn ci) ∈ zws := by
  have hc := List.all_eq_true.mp zinsK ci (List.mem_range.mpr hci)
  simp only [Bool.and_eq_true, decide_eq_true_eq] at hc
  exact ⟨zws_in hc.1.1.1 hc.1.1.2, zws_in hc.1.2 hc.2⟩
theorem zs_new {k ci : Nat} (cx : zX p s m args meth c B sp cA D mi) (hd : decode mi.1 pc = .ok (.new k, 3)) (hz : zcls mi.2.1 k = some ci) (hci : ci < 13) (hcnt : h.2.2.2.2 = 0) (hlen : h.1.1 < 900000) (hr1 : zc (znew h ci (zft ci).length) ≤ c0 + R.cells) (hr2 : zt (znew h ci (zft ci).length) ≤ s0 + R.slots)
    (kk : zK p l e R s m args below meth c Q B sp cA D mi c0 s0 (pc + 3, ls, .inr (.inr (some h.1.1)) :: st, znew h ci (zft ci).length)) : zK p l e R s m args below meth c Q B sp cA D mi c0 s0 (pc, ls, st, h) := by
  intro H locs lA cells slots hR hS hl h1 h2
  obtain ⟨hx, hb, hml, hown, hts, hin, hC⟩ := cx
  have hsz := hR.2.2 hcnt
  dsimp only at h1 h2
  rw [zc_new] at hr1
  rw [zt_new] at hr2
  refine zp_new (fs := zfs B sp (znew h ci (zft ci).length) h.1.1 ci) hx hb hts (zcl_ws hci) (zty ci) (zcl_ty hci) hown (hts _ (zcls_get hz hci)) (hts _ (zins_get hci).1) (hts _ (zins_get hci).2) hC.1 hR.1 hS (zcl_cl hci) (fun j hj => ?_) (by omega) (by omega) hd (fun H1 hz1 hP1 hS1 => ?_)
  · have hk := (zft_get hci hj).1
    have e1 : vp_V (zfs B sp (znew h ci (zft ci).length) h.1.1 ci) j = zcv B sp (zfv (znew h ci (zft ci).length) ci h.1.1 j) := by
      simp [vp_V, List.getD, zfs_get hj]
    rw [e1]
    have e2 : (zft ci).getD j 0 = (zft ci).getD j 9 := by simp [List.getD, hj]
    unfold zfv
    rw [e2]
    unfold zftok at hk
    split at hk
    · next q =>
      rw [q, of_decide_eq_true hk]
      simp [znew, zrow, zcv, defaultValue]
    · next q =>
      rw [q, of_decide_eq_true hk]
      simp [znew, zrow, zcv, defaultValue]
    · next q =>
      rw [q]
      generalize zty ci j = ty at hk
      cases ty <;> first | (cases hk; done) | simp [znew, zrow, zcv, defaultValue, va_rf]
    · cases hk
  · have e3 : zcv B sp (.inr (.inr (some h.1.1))) = .ref H.size := by rw [zcv_ref (by omega), hsz]
    have k' := kk H1 locs lA (cells + 1) (slots + (zft ci).length) ⟨?_, zok_new hR.2.1 (by omega) hlen, fun _ => by rw [hz1, hsz]; simp [znew]; omega⟩ hS1 hl (by show c0 + (cells + 1) = zc (znew h ci (zft ci).length); rw [zc_new]; omega) (by show s0 + (slots + (zft ci).length) = zt (znew h ci (zft ci).length); rw [zt_new]; omega)
    · have k2 : W p l e R s m args below meth c H1 locs (cells + 1) (slots + (zft ci).length) Q (F0 m (pc + 3) lA (zcv B sp (.inr (.inr (some h.1.1))) :: st.map (zcv B sp))) := k'
      rw [e3] at k2
      exact k2
    · show va_P D vwCl (zW B sp cA (znew h ci (zft ci).length)) H1
      rw [zW_new (h := h) (k := ci) (n := (zft ci).length) (fun b hb k n => zE_new hb), zE_obj hci, ← hsz]
      exact hP1
theorem zs_newa {n : Int32} {t : ArrayType} {kd : Nat} (cx : zX p s m args meth c B sp cA D mi) (hd : decode mi.1 pc = .ok (.newarray t, 2)) (ht : (t = .byte ∧ kd = 13) ∨ (t = .int ∧ kd = 14) ∨ (t = .long ∧ kd = 15)) (hcnt : h.2.2.2.2 = 0) (hlen : h.1.1 < 900000) (hn : ¬ n < 0) (hN : n.toNatClampNeg ≤ 100000) (hr1 : zc (znew h kd n.toNatClampNeg) ≤ c0 + R.cells) (hr2 : zt (znew h kd n.toNatClampNeg) ≤ s0 + R.slots)
    (kk : zK p l e R s m args below meth c Q B sp cA D mi c0 s0 (pc + 2, ls, .inr (.inr (some h.1.1)) :: st, znew h kd n.toNatClampNeg)) : zK p l e R s m args below meth c Q B sp cA D mi c0 s0 (pc, ls, .inl n :: st, h) := by
  intro H locs lA cells slots hR hS hl h1 h2
  obtain ⟨hx, hb, hml, hown, hts, hin, hC⟩ := cx
  have hsz := hR.2.2 hcnt
  dsimp only at h1 h2
  rw [zc_new] at hr1
  rw [zt_new] at hr2
  have e3 : zcv B sp (.inr (.inr (some h.1.1))) = .ref H.size := by rw [zcv_ref (by omega), hsz]
  have fin : ∀ (H1 : Heap), kd ≤ 20 → H1.size = H.size + 1 → va_P D vwCl (zW B sp cA h ++ [(H.size, zE B sp cA (znew h kd n.toNatClampNeg) h.1.1 kd n.toNatClampNeg)]) H1 → va_S (zAr B) s.heap H1 locs → W p l e R s m args below meth c H1 locs (cells + 1) (slots + n.toNatClampNeg) Q (F0 m (pc + 2) lA (.ref H.size :: st.map (zcv B sp))) := by
    intro H1 h20 hz1 hP1 hS1
    have k' := kk H1 locs lA (cells + 1) (slots + n.toNatClampNeg) ⟨by
      show va_P D vwCl (zW B sp cA (znew h kd n.toNatClampNeg)) H1
      rw [zW_new (h := h) (k := kd) (n := n.toNatClampNeg) (fun b hb k n => zE_new hb), ← hsz]
      exact hP1, zok_new hR.2.1 h20 hlen, fun _ => by rw [hz1, hsz]; simp [znew]; omega⟩ hS1 hl (by show c0 + (cells + 1) = zc (znew h kd n.toNatClampNeg); rw [zc_new]; omega) (by show s0 + (slots + n.toNatClampNeg) = zt (znew h kd n.toNatClampNeg); rw [zt_new]; omega)
    have k2 : W p l e R s m args below meth c H1 locs (cells + 1) (slots + n.toNatClampNeg) Q (F0 m (pc + 2) lA (zcv B sp (.inr (.inr (some h.1.1))) :: st.map (zcv B sp))) := k'
    rw [e3] at k2
    exact k2
  have z0 : (znew h kd n.toNatClampNeg).2.1 h.1.1 = fun _ => 0 := by funext j; simp [znew, zrow]
  have z1 : (znew h kd n.toNatClampNeg).2.2.1 h.1.1 = fun _ => 0 := by funext j; simp [znew, zrow]
  rcases ht with ⟨rfl, rfl⟩ | ⟨rfl, rfl⟩ | ⟨rfl, rfl⟩
  · refine zp_newa (a0 := (n.toNatClampNeg, .inl (fun _ => 0))) (cX := cA 13) (atype := .byte) hx hb (hts _ zarrK.1) hR.1 hS (hC.1.2 0 _ rfl).2 rfl hn rfl (by show n.toNatClampNeg * 1 ≤ _; omega) (by omega) (by omega) hd (fun H1 hz1 hP1 hS1 => fin H1 (by decide) hz1 ?_ hS1)
    rw [zE_B, z0]
    exact hP1
  · refine zp_newa (a0 := (n.toNatClampNeg, .inl (fun _ => 0))) (cX := cA 14) (atype := .int) hx hb (hts _ zarrK.2.1) hR.1 hS (hC.1.2 1 _ rfl).2 rfl hn rfl (by show n.toNatClampNeg * 4 ≤ _; omega) (by omega) (by omega) hd (fun H1 hz1 hP1 hS1 => fin H1 (by decide) hz1 ?_ hS1)
    rw [zE_I, z0]
    exact hP1
  · refine zp_newa (a0 := (n.toNatClampNeg, .inr (.inl (fun _ => 0)))) (cX := cA 15) (atype := .long) hx hb (hts _ zarrK.2.2) hR.1 hS (hC.1.2 2 _ rfl).2 rfl hn rfl (by show n.toNatClampNeg * 8 ≤ _; omega) (by omega) (by omega) hd (fun H1 hz1 hP1 hS1 => fin H1 (by decide) hz1 ?_ hS1)
    rw [zE_J, z1]
    exact hP1
theorem zak_rc {ci : Nat} (h1 : 16 ≤ zak ci) (h2 : zak ci ≤ 20) : zrc (zak ci) = ci ∧ ci < 13 := by
  unfold zak at h1 h2 ⊢
  split at h1 <;> first | exact ⟨rfl, by decide⟩ | (exact absurd h1 (by decide))
theorem zs_newq {k ci : Nat} {n : Int32} (cx : zX p s m args meth c B sp cA D mi) (hd : decode mi.1 pc = .ok (.anewarray k, 3)) (hz : zcls mi.2.1 k = some ci) (hk1 : 16 ≤ zak ci) (hk2 : zak ci ≤ 20) (hcnt : h.2.2.2.2 = 0) (hlen : h.1.1 < 900000) (hn : ¬ n < 0) (hN : n.toNatClampNeg ≤ 100000) (hr1 : zc (znew h (zak ci) n.toNatClampNeg) ≤ c0 + R.cells) (hr2 : zt (znew h (zak ci) n.toNatClampNeg) ≤ s0 + R.slots)
    (kk : zK p l e R s m args below meth c Q B sp cA D mi c0 s0 (pc + 3, ls, .inr (.inr (some h.1.1)) :: st, znew h (zak ci) n.toNatClampNeg)) : zK p l e R s m args below meth c Q B sp cA D mi c0 s0 (pc, ls, .inl n :: st, h) := by
  intro H locs lA cells slots hR hS hl h1 h2
  obtain ⟨hx, hb, hml, hown, hts, hin, hC⟩ := cx
  have hsz := hR.2.2 hcnt
  dsimp only at h1 h2
  rw [zc_new] at hr1
  rw [zt_new] at hr2
  obtain ⟨hrc, hci⟩ := zak_rc hk1 hk2
  have hAO := hC.2.2.2.1 (zak ci) hk1 hk2
  rw [hrc] at hAO
  have hty := ztys_R (cA := cA) hk1 hk2
  rw [hrc] at hty
  obtain ⟨kA, comp, -, -, -, hfc⟩ := (hC.1.2 _ _ hty).2
  have e3 : zcv B sp (.inr (.inr (some h.1.1))) = .ref H.size := by rw [zcv_ref (by omega), hsz]
  have z2 : (fun j => ((znew h (zak ci) n.toNatClampNeg).2.2.2.1 h.1.1 j).map (zad B sp)) = fun _ => none := by funext j; simp [znew, zrow]
  refine zp_newq (cX := cA (zak ci)) hx hb hown (hts _ (zcls_get hz hci)) hAO hR.1 hS hfc hn rfl (by omega) (by omega) (by omega) hd (fun H1 hz1 hP1 hS1 => ?_)
  have k' := kk H1 locs lA (cells + 1) (slots + n.toNatClampNeg) ⟨by
    show va_P D vwCl (zW B sp cA (znew h (zak ci) n.toNatClampNeg)) H1
    rw [zW_new (h := h) (k := (zak ci)) (n := n.toNatClampNeg) (fun b hb k n => zE_new hb), ← hsz, zE_R hk1, z2]
    exact hP1, zok_new hR.2.1 hk2 hlen, fun _ => by rw [hz1, hsz]; simp [znew]; omega⟩ hS1 hl (by show c0 + (cells + 1) = zc (znew h (zak ci) n.toNatClampNeg); rw [zc_new]; omega) (by show s0 + (slots + n.toNatClampNeg) = zt (znew h (zak ci) n.toNatClampNeg); rw [zt_new]; omega)
  have k2 : W p l e R s m args below meth c H1 locs (cells + 1) (slots + n.toNatClampNeg) Q (F0 m (pc + 3) lA (zcv B sp (.inr (.inr (some h.1.1))) :: st.map (zcv B sp))) := k'
  rw [e3] at k2
  exact k2
end ZS4
